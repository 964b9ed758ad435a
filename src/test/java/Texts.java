import java.util.Random;

/** Makes up texts: mostly well-formed ones over few names, now and then with a spoilt character. */
final class Texts {
    private static final String[] NUMERALS = {
        "0", "1", "2", "3", "4", "7", "10", "0.5", "1.5", "0.0", "2.00", "0.25", "1.2345", "0.0001", "99", "100",
        "31623", "99999.9999", "999999999", "12345678.9"
    };
    private static final String[] RELATIONS = {"<", ">", "<=", ">=", "==", "!="};
    private static final String SPOILERS = "+-*/%^(){}=<>;!\n .,0129axfgAZ_\u00ff";
    private static final String FUNCTIONS = "fgh";

    private final Random random;

    Texts(long seed) {
        random = new Random(seed);
    }

    int below(int bound) {
        return random.nextInt(bound);
    }

    boolean oneIn(int n) {
        return below(n) == 0;
    }

    /** A text of at most so many characters; what was longer is left whole pieces short. */
    String text(int limit) {
        StringBuilder text = new StringBuilder();
        int defined = 0;
        int parts = 1 + below(9);
        for (int i = 0; i < parts; i++) {
            boolean defines = i == 0 ? !oneIn(4) : oneIn(5);
            String part = defines ? definition(defined) : statement(3, false);
            if (text.length() + part.length() + 2 <= limit) {
                text.append(part).append(oneIn(9) ? ";\n" : ";");
                defined += defines ? 1 : 0;
            }
        }
        return oneIn(8) ? spoilt(text, limit) : text.toString();
    }

    private String spoilt(StringBuilder text, int limit) {
        int place = below(text.length() + 1);
        char spoiler = SPOILERS.charAt(below(SPOILERS.length()));
        if (place < text.length() && oneIn(2)) {
            text.setCharAt(place, spoiler);
        } else if (place < text.length() && oneIn(2)) {
            text.deleteCharAt(place);
        } else if (text.length() < limit) {
            text.insert(place, spoiler);
        }
        return text.toString();
    }

    /** Mostly of the next of the names, so that a name twice is rare. */
    private String definition(int defined) {
        String name = oneIn(20) ? pick(FUNCTIONS) : String.valueOf(FUNCTIONS.charAt(defined % FUNCTIONS.length()));
        return "define " + name + "(" + name() + "){" + list(3, true) + "}";
    }

    private String list(int budget, boolean defining) {
        StringBuilder list = new StringBuilder();
        int count = below(4);
        for (int i = 0; i < count; i++) {
            list.append(i == 0 ? "" : ";").append(statement(budget - 1, defining));
        }
        return list.toString();
    }

    private String statement(int budget, boolean defining) {
        if (budget > 0) {
            switch (below(8)) {
                case 0:
                    return "if(" + condition() + ")" + statement(budget - 1, defining);
                case 1:
                    return "while(" + condition() + ")" + statement(budget - 1, defining);
                case 2:
                    return "{" + list(budget, defining) + "}";
                case 3:
                    return counting(budget, defining);
                default:
            }
        }
        if (defining && oneIn(2)) {
            return "return " + expression(2);
        }
        return switch (below(7)) {
            case 0 -> "scale=" + (oneIn(5) ? expression(1) : String.valueOf(below(5)));
            case 1, 2, 3 -> name() + (oneIn(5) ? " = " : "=") + expression(2);
            default -> expression(2);
        };
    }

    private String counting(int budget, boolean defining) {
        String name = name();
        return "while(" + name + "<" + below(9) + "){" + statement(budget - 1, defining) + ";"
            + name + "=" + name + "+1}";
    }

    private String condition() {
        return expression(1) + RELATIONS[below(RELATIONS.length)] + expression(1);
    }

    private String expression(int budget) {
        if (budget == 0) {
            return atom();
        }
        return switch (below(12)) {
            case 0, 1 -> expression(budget - 1) + "+" + expression(budget - 1);
            case 2 -> expression(budget - 1) + "-" + expression(budget - 1);
            case 3 -> expression(budget - 1) + "*" + expression(budget - 1);
            case 4 -> expression(budget - 1) + "/" + expression(budget - 1);
            case 5 -> expression(budget - 1) + "%" + expression(budget - 1);
            case 6 -> atom() + "^" + (oneIn(3) ? "-" : "") + (oneIn(3) ? atom() : String.valueOf(below(6)));
            case 7 -> "(" + expression(budget - 1) + ")";
            case 8 -> "-" + expression(budget - 1);
            case 9, 10 -> pick("fffgh") + "(" + expression(budget - 1) + ")";
            default -> atom();
        };
    }

    private String atom() {
        return switch (below(9)) {
            case 0, 1, 2, 3 -> name();
            case 4 -> "scale";
            default -> NUMERALS[below(oneIn(3) ? NUMERALS.length : 9)];
        };
    }

    private String name() {
        return pick("xxxyn");
    }

    private String pick(String names) {
        return String.valueOf(names.charAt(below(names.length())));
    }
}
