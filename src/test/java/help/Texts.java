import java.util.Random;

/** Random texts: sound ones, and ones in which something is amiss. */
final class Texts {
    private static final String[] NAMES = {"a", "b", "cat", "dd", "zzzzzz", "mno", "q", "houses", "gainx"};
    private static final String[] E_NAMES = {"dial", "gain", "far", "kind", "heard", "knows", "hour"};
    private static final String[] SIGNS = {"+", "-", "*", "/", "+", "-", "<", "<=", "=", "<>", ">=", ">", "and", "or"};
    private static final String MIX = "abz019 ;()<>=+-*/\n#A{\t\u00e9";
    private static final String[] WORDS = {"house", "turn", "sound", "near", "often", "fade", "seed", "law", "reach",
        "learn", "drift", "or", "and", "not", "dial", "far", "x", "toolong", "sixsix", ";", "(", ")", "<", "<=", "=",
        "<>", ">", ">=", "+", "*", "0", "100", "9999", "10000", "99999", "100000", "5", "99999999999999999999"};

    private final Random random;

    Texts(Random random) {
        this.random = random;
    }

    private int below(int n) {
        return random.nextInt(n);
    }

    private <T> T any(T[] of) {
        return of[below(of.length)];
    }

    /** A text that mostly has no fault; many of its houses are near one another, its hours are early. */
    String sound() {
        StringBuilder text = new StringBuilder();
        int houses = below(8) == 0 ? below(3) : 2 + below(5);
        int about = below(100);
        for (int i = 0; i < houses; i++) {
            int dial = below(4) == 0 ? below(100) : Math.floorMod(about + below(25) - 12, 100);
            line(text, "house " + NAMES[i] + " " + dial + " " + below(10));
        }
        int hours = 1 + below(below(4) == 0 ? 100 : 12);
        boolean[] used = new boolean[700];
        for (int i = below(11); i > 0 && houses > 0; i--) {
            line(text, "turn " + NAMES[below(houses)] + " " + below(hours) + " " + Math.floorMod(about + below(21) - 10, 100));
        }
        for (int i = below(13); i > 0 && houses > 0; i--) {
            int house = below(houses);
            int hour = below(hours);
            if (!used[house * 100 + hour]) {
                used[house * 100 + hour] = true;
                line(text, "sound " + NAMES[house] + " " + hour + " " + (1 + below(below(2) == 0 ? 2 : 9)));
            }
        }
        if (below(2) == 0) {
            line(text, "near " + below(below(2) == 0 ? 21 : 6));
        }
        if (below(2) == 0) {
            line(text, "often " + (1 + below(below(2) == 0 ? 9 : 2)));
        }
        if (below(2) == 0) {
            line(text, "fade " + (below(3) == 0 ? below(3) * 50 : below(101)));
        }
        if (below(2) == 0) {
            line(text, "seed " + below(100000));
        }
        for (String law : new String[] {"reach", "learn", "drift"}) {
            if (below(3) == 0) {
                line(text, "law " + law + " " + expression(0));
            }
        }
        return text.length() > 700 ? sound() : text.toString();
    }

    private void line(StringBuilder text, String line) {
        if (text.length() + line.length() < 700) {
            text.append(line).append(below(6) == 0 ? " ;\n" : ";");
        }
    }

    String expression(int depth) {
        int sort = below(depth > 4 ? 2 : 6);
        switch (sort) {
            case 0:
                return "" + (below(8) == 0 ? below(10000) : below(20));
            case 1:
                return any(E_NAMES);
            case 2:
                return "(" + expression(depth + 1) + ")";
            case 3:
                return (below(3) == 0 ? "not " : "") + expression(depth + 1);
            default:
                return expression(depth + 1) + " " + any(SIGNS) + " " + expression(depth + 1);
        }
    }

    /** A sound text with some signs or words put in, left out or put in place of others. */
    String amiss() {
        StringBuilder text = new StringBuilder(sound());
        for (int i = 1 + below(2); i > 0; i--) {
            int at = below(text.length() + 1);
            switch (below(7)) {
                case 5:
                case 6:
                    lineAgain(text, at);
                    break;
                case 0:
                    text.insert(at, MIX.charAt(below(MIX.length())));
                    break;
                case 1:
                    text.insert(at, " " + any(WORDS) + " ");
                    break;
                case 2:
                    text.setLength(at);
                    break;
                case 3:
                    text.delete(at, Math.min(text.length(), at + 1 + below(3)));
                    break;
                default:
                    if (at < text.length()) {
                        text.setCharAt(at, MIX.charAt(below(MIX.length())));
                    }
                    break;
            }
        }
        if (text.length() > 690) {
            text.setLength(690);
        }
        return text.toString();
    }

    private void lineAgain(StringBuilder text, int at) {
        int end = text.indexOf(";", at);
        if (end >= 0) {
            int begin = text.lastIndexOf(";", Math.max(0, end - 1)) + 1;
            text.append(text.substring(begin, end + 1));
        }
    }

    /** Words of the language in any order, behind one house. */
    String words() {
        StringBuilder text = new StringBuilder(below(2) == 0 ? "house x 1 1;" : below(2) == 0 ? "law reach " : "");
        for (int i = below(12); i >= 0; i--) {
            text.append(any(WORDS)).append(below(3) == 0 ? "" : " ");
        }
        return text.toString();
    }

    /** Long laws, about the most knots and the most '('. */
    String knotty() {
        StringBuilder text = new StringBuilder();
        for (String law : new String[] {"drift", "reach", "learn"}) {
            text.append("law ").append(law).append(' ');
            int open = 0;
            for (int i = below(22); i >= 0; i--) {
                for (int k = below(10); k > 8 || k > 0 && below(2) == 0; k--) {
                    text.append('(');
                    open++;
                }
                if (below(40) == 0) {
                    text.append("not ");
                }
                text.append(below(2) == 0 ? any(E_NAMES) : "" + below(10));
                while (open > 0 && below(3) != 0) {
                    text.append(')');
                    open--;
                }
                if (i > 0) {
                    text.append(SIGNS[below(30) == 0 ? below(SIGNS.length) : below(4)].replaceAll("([a-z]+)", " $1 "));
                }
            }
            while (open > 0) {
                text.append(')');
                open--;
            }
            text.append(';');
        }
        return text.length() > 700 ? knotty() : text.toString();
    }
}
