/** A DecimalRun with its text and output as Strings, and the outcome of a run as a value. */
final class Session {
    static final int PLENTY = 2000;

    final DecimalRun run = new DecimalRun();

    /** Feeds the text four characters a word; answers whether all of it went in. */
    boolean feed(String text) {
        for (int i = 0; i < text.length(); i += 4) {
            String four = text.substring(i, Math.min(i + 4, text.length()));
            if (run.feed(word(four)) != four.length()) {
                return false;
            }
        }
        return true;
    }

    static int word(String four) {
        int word = 0;
        for (int i = 0; i < four.length(); i++) {
            word |= four.charAt(i) << 8 * i;
        }
        return word;
    }

    /** What run answers, or the name of what it throws. */
    String go(int fuel) {
        try {
            return String.valueOf(run.run(fuel));
        } catch (IllegalArgumentException | ArithmeticException | IllegalStateException thrown) {
            return thrown.getClass().getSimpleName();
        }
    }

    /** Runs another text on the same object. */
    String go(String text, int fuel) {
        run.clear();
        feed(text);
        return go(fuel);
    }

    /** Runs the text on a new object. */
    static String fresh(String text, int fuel) {
        return new Session().go(text, fuel);
    }

    String out() {
        StringBuilder out = new StringBuilder();
        for (int i = 0; i < run.outLength(); i++) {
            out.append((char) run.out(i));
        }
        return out.toString();
    }

    /** A variable as its m and its decimals. */
    String variable(char name) {
        return run.variable(name - 'a') + "e" + run.decimals(name - 'a');
    }

    /** What the latest run left: its fault, its steps and its output. */
    String left() {
        return "fault " + run.fault() + ", " + run.steps() + " steps, output " + out();
    }

    /** The scale and all variables. */
    String numbers() {
        StringBuilder numbers = new StringBuilder("scale " + run.scale());
        for (char name = 'a'; name <= 'z'; name++) {
            numbers.append(' ').append(variable(name));
        }
        return numbers.toString();
    }

    static String due(int fault) {
        return switch (fault) {
            case 1 -> "IllegalArgumentException";
            case 2, 3, 5 -> "ArithmeticException";
            default -> "IllegalStateException";
        };
    }
}
