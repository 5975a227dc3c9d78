import java.util.Random;

/** Texts of sheds by draws: mostly right ones, some spoilt. */
final class Sheds {
    private final Random random;

    Sheds(Random random) {
        this.random = random;
    }

    private int below(int n) {
        return random.nextInt(n);
    }

    private boolean onceIn(int n) {
        return below(n) == 0;
    }

    private String gap() {
        return onceIn(8) ? "\n" : " ";
    }

    /** A text of at most 900 bytes with at most so many numbers. */
    String draw(int mostNumbers) {
        for (int i = 0; i < 100; i++) {
            String text = text(mostNumbers);
            if (onceIn(4)) {
                text = spoil(text);
            }
            if (text.length() <= 900) {
                return text;
            }
        }
        return "";
    }

    private String text(int mostNumbers) {
        StringBuilder out = new StringBuilder();
        int wheels = onceIn(15) ? 0 : 1 + below(4);
        int[] figures = new int[wheels];
        int total = 1;
        for (int w = 0; w < wheels; w++) {
            figures[w] = 2 + below(9);
            if (total * figures[w] > mostNumbers) {
                figures[w] = 2;
            }
            total *= figures[w];
            if (onceIn(5)) {
                extra(out, 0);
            }
            out.append("wheel ").append(figures[w]);
            if (onceIn(2)) {
                out.append(gap()).append("stiff ").append(1 + below(onceIn(3) ? 9 : 3));
            }
            if (onceIn(2)) {
                out.append(" round");
            }
            out.append(";");
        }
        int clues = 0;
        int lines = below(12);
        boolean opens = false;
        for (int i = 0; i < lines; i++) {
            int kind = below(10);
            if (kind < 4 && clues < 8) {
                out.append("clue ").append(onceIn(3) ? 5 + 5 * below(2) : below(11)).append(":").append(gap());
                truth(out, wheels, 0);
                out.append(";");
                clues++;
            } else if (kind < 6 && wheels > 0) {
                out.append(onceIn(2) ? "set" : "at");
                for (int f : figures) {
                    out.append(gap()).append(below(f));
                }
                out.append(";");
                opens = true;
            } else {
                extra(out, clues);
            }
        }
        if (!opens && wheels > 0 && !onceIn(3)) {
            out.append("set");
            for (int f : figures) {
                out.append(" ").append(below(f));
            }
            out.append(";");
        }
        return out.toString();
    }

    private void extra(StringBuilder out, int clues) {
        switch (below(5)) {
            case 0 -> out.append("pull ").append(1 + below(60));
            case 1 -> out.append("bar ").append(1 + below(onceIn(2) ? 3 : 9)).append(gap()).append(1 + below(onceIn(2) ? 9 : 999));
            case 2 -> out.append("saw ").append(1 + below(onceIn(2) ? 99 : 999));
            default -> {
                out.append("mate");
                for (int i = below(4); i > 0 && clues > 0; i--) {
                    out.append(" ").append(below(clues));
                }
            }
        }
        out.append(";");
    }

    private void truth(StringBuilder out, int wheels, int depth) {
        unit(out, wheels, depth);
        for (int i = below(3); i > 0; i--) {
            out.append(onceIn(2) ? " or " : " and ");
            unit(out, wheels, depth);
        }
    }

    private void unit(StringBuilder out, int wheels, int depth) {
        if (depth < 6 && onceIn(4)) {
            out.append("not ");
            unit(out, wheels, depth + 1);
        } else if (depth < 6 && onceIn(5)) {
            out.append("[");
            truth(out, wheels, depth + 1);
            out.append("]");
        } else {
            sum(out, wheels, depth);
            out.append(" ").append("=<>".charAt(below(3))).append(" ");
            sum(out, wheels, depth);
        }
    }

    private void sum(StringBuilder out, int wheels, int depth) {
        term(out, wheels, depth);
        for (int i = below(5) / 3; i > 0; i--) {
            out.append(onceIn(2) ? " + " : "-");
            term(out, wheels, depth);
        }
    }

    private void term(StringBuilder out, int wheels, int depth) {
        atom(out, wheels, depth);
        for (int i = below(6) / 4; i > 0; i--) {
            out.append("*");
            atom(out, wheels, depth);
        }
    }

    private void atom(StringBuilder out, int wheels, int depth) {
        switch (below(9)) {
            case 0, 1 -> out.append(below(onceIn(4) ? 1000 : 12));
            case 2, 3 -> out.append(wheels > 0 ? "w " + below(wheels) : "number");
            case 4 -> out.append("has ").append(below(10));
            case 5 -> out.append("sum");
            case 6 -> out.append("alike");
            case 7 -> out.append("number");
            default -> {
                if (depth < 6) {
                    out.append("(");
                    sum(out, wheels, depth + 1);
                    out.append(")");
                } else {
                    out.append("sum");
                }
            }
        }
    }

    private static final String[] PIECES = {"wheel 2;", "wheel", "stiff", "round", "clue", "clue 5: 1 = 1;", "set", "at", "mate", "mate;", ";", ":", "+", "-",
        "*", "(", ")", "[", "]", "=", "<", ">", "not ", "not not not ", "[[[", "(((", "0", "1", "7", "9", "10", "11", "60", "61", "99", "999", "1000", "0010", "001",
        "or", "and", "w 3", "w", "has", "has 10", "sum", "alike", "number", "pull 0;", "bar 9 999;", "saw 0", "x", "wheels", "numbers", "A", ",", "\t", "\u0000", "\u00e9", "\u00ff", " ", "\n"};

    private String spoil(String text) {
        StringBuilder out = new StringBuilder(text);
        for (int i = 1 + below(2); i > 0; i--) {
            int at = below(out.length() + 1);
            switch (below(3)) {
                case 0 -> out.insert(at, PIECES[below(PIECES.length)]);
                case 1 -> out.delete(at, Math.min(out.length(), at + 1 + below(5)));
                default -> {
                    if (at < out.length()) {
                        String piece = PIECES[below(PIECES.length)];
                        out.replace(at, at + 1, piece);
                    }
                }
            }
        }
        return out.toString();
    }
}
