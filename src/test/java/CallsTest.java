/** Made-up runs of 512 calls, each on a new object, every answer compared with that of a plain model. */
public final class CallsTest {
    private static final int OBJECTS = 1000;
    private static final int CALLS = 512;
    private static final int[] FUELS = {Integer.MIN_VALUE, -1, 0, 1, 2, 5, 20, 2000, 2001, Integer.MAX_VALUE};
    private static final int[] FAR = {Integer.MIN_VALUE, -1, 26, 255, 299, 300, 301, Integer.MAX_VALUE};

    private static final Check CHECK = new Check();
    private static final Texts TEXTS = new Texts(512L);
    private static final int[] MET = new int[9];

    private final Session session = new Session();
    private final Oracle oracle = new Oracle();
    private final StringBuilder text = new StringBuilder();
    private String rest = "";

    public static void main(String[] args) {
        for (int i = 0; i < OBJECTS; i++) {
            CallsTest one = new CallsTest();
            for (int call = 0; call < CALLS; call++) {
                one.call();
            }
        }
        for (int fault = 0; fault < MET.length; fault++) {
            System.out.println("fault " + fault + ": " + MET[fault] + " runs");
            CHECK.isTrue("fault " + fault + " was met", MET[fault] > 0);
        }
        CHECK.end();
    }

    /** A text that has gone in as a whole is mostly run or cleared, so that many runs are of sound texts. */
    private void call() {
        boolean whole = rest.isEmpty() && !text.isEmpty();
        switch (TEXTS.below(whole ? 12 : 24)) {
            case 0 -> reset();
            case 1 -> clear();
            case 2, 3 -> run(FUELS[TEXTS.below(FUELS.length)]);
            case 4 -> CHECK.same("length", session.run.length(), text.length());
            case 5 -> CHECK.same("fault", session.run.fault(), oracle.fault);
            case 6 -> CHECK.same("steps", session.run.steps(), oracle.steps);
            case 7 -> CHECK.same("outLength", session.run.outLength(), oracle.out.length());
            case 8 -> out(TEXTS.oneIn(4) ? FAR[TEXTS.below(FAR.length)] : TEXTS.below(oracle.out.length() + 2));
            case 9 -> variable(TEXTS.oneIn(4) ? FAR[TEXTS.below(FAR.length)] : TEXTS.below(28) - 1);
            case 10 -> decimals(TEXTS.oneIn(4) ? FAR[TEXTS.below(FAR.length)] : TEXTS.below(28) - 1);
            case 11 -> CHECK.same("scale", session.run.scale(), oracle.scale);
            default -> feed(TEXTS.oneIn(60) ? TEXTS.below(65536) << 16 | TEXTS.below(65536) : next());
        }
    }

    private void reset() {
        session.run.reset();
        oracle.reset();
    }

    private void clear() {
        session.run.clear();
        text.setLength(0);
        rest = "";
    }

    /** The next one to four characters of a sound text, with what lies behind a 0 now and then. */
    private int next() {
        if (rest.isEmpty()) {
            rest = TEXTS.text(TEXTS.oneIn(3) ? 200 : 60);
        }
        int count = Math.min(rest.length(), 1 + TEXTS.below(4));
        int word = Session.word(rest.substring(0, count));
        rest = rest.substring(count);
        return count < 3 && TEXTS.oneIn(5) ? word | '7' << 24 : word;
    }

    private void feed(int word) {
        StringBuilder more = new StringBuilder();
        for (int left = word; (left & 255) != 0; left >>>= 8) {
            more.append((char) (left & 255));
        }
        boolean fits = text.length() + more.length() <= 200;
        CHECK.same("feed(" + word + ") behind " + text, session.run.feed(word), fits ? more.length() : -1);
        text.append(fits ? more : "");
    }

    private void run(int fuel) {
        oracle.run(text.toString(), fuel);
        MET[oracle.fault]++;
        String due = oracle.fault == 0 ? String.valueOf(oracle.steps) : Session.due(oracle.fault);
        CHECK.same("run(" + fuel + ") of " + text, session.go(fuel), due);
    }

    private void out(int i) {
        boolean there = i >= 0 && i < oracle.out.length();
        CHECK.same("out(" + i + ")", session.run.out(i), there ? oracle.out.charAt(i) : -1);
    }

    private void variable(int c) {
        int due = c < 0 || c > 25 ? 0 : oracle.variable((char) ('a' + c)).unscaledValue().intValueExact();
        CHECK.same("variable(" + c + ")", session.run.variable(c), due);
    }

    private void decimals(int c) {
        int due = c < 0 || c > 25 ? -1 : oracle.variable((char) ('a' + c)).scale();
        CHECK.same("decimals(" + c + ")", session.run.decimals(c), due);
    }
}
