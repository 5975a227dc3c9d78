/** All that can be seen of an object without changing it. */
final class Look {
    private Look() { }

    static String at(FourWheels x) {
        StringBuilder out = new StringBuilder();
        for (int what = 0; what < 12; what++) {
            out.append("count ").append(what).append(": ").append(x.count(what)).append(" ");
        }
        out.append("fault ").append(x.fault(0)).append(" ").append(x.fault(1));
        out.append(" left ").append(x.left()).append(" all ").append(x.all());
        for (int k = 0; k < 4; k++) {
            out.append(" order ").append(x.order(k));
        }
        out.append(" nearest ").append(x.nearest()).append(" telling ").append(x.telling()).append(" hidden ").append(x.hidden());
        out.append(" saw ").append(x.saw(1)).append(" mate ").append(x.mate(0, 0));
        for (int w = 0; w < x.count(0); w++) {
            for (int what = 0; what < 5; what++) {
                out.append(" wheel ").append(x.wheel(w, what));
            }
        }
        for (int tray = 0; tray < 4; tray++) {
            for (int what = 0; what < 4; what++) {
                out.append(" judge ").append(x.judge(tray, what));
            }
            out.append(" best ").append(x.best(tray, 0)).append(" rows ").append(x.rows(tray)).append(" who ").append(x.who(tray));
        }
        return out.toString();
    }
}
