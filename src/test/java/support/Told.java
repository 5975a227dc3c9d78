/** Tells an object a text. */
final class Told {
    private Told() { }

    /** Feeds a text in pieces of twenty bytes, the last one filled by blanks. */
    static void feed(FourWheels x, String text) {
        StringBuilder padded = new StringBuilder(text);
        while (padded.length() % 20 != 0) {
            padded.append(' ');
        }
        for (int at = 0; at < padded.length(); at += 20) {
            int[] v = new int[5];
            for (int i = 0; i < 20; i++) {
                v[i / 4] = v[i / 4] << 8 | padded.charAt(at + i) & 255;
            }
            x.feed(v[0], v[1], v[2], v[3], v[4]);
        }
    }

    static int shed(FourWheels x, String text) {
        feed(x, text);
        return x.shed(text.length());
    }

    static FourWheels of(String text) {
        FourWheels x = new FourWheels();
        int lines = shed(x, text);
        if (lines < 0) {
            System.out.println("a text that should be right was refused by " + lines + ": " + text);
            System.exit(1);
        }
        return x;
    }

    /** Lays a tray of 32 bits with these numbers. */
    static void lay(FourWheels x, int tray, long... values) {
        x.numbers(tray, 2, values.length);
        for (int i = 0; i < values.length; i++) {
            x.write(tray, i, values[i]);
        }
    }
}
