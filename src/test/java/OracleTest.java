/** Many made-up texts, each run by DecimalRun and by the oracle, with everything compared. */
public final class OracleTest {
    private static final int OBJECTS = 20_000;
    private static final int RUNS_EACH = 5;
    private static final int TEXT_LIMIT = 200;
    private static final Check CHECK = new Check();
    private static final int[] FAULTS = new int[9];

    public static void main(String[] args) {
        Texts texts = new Texts(20_261_115L);
        for (int i = 0; i < OBJECTS; i++) {
            compareOneObject(texts);
        }
        for (int fault = 0; fault < FAULTS.length; fault++) {
            System.out.println("fault " + fault + ": " + FAULTS[fault] + " runs");
            CHECK.isTrue("fault " + fault + " was met often", FAULTS[fault] > 100);
        }
        CHECK.end();
    }

    private static void compareOneObject(Texts texts) {
        Session session = new Session();
        Oracle oracle = new Oracle();
        for (int i = 0; i < RUNS_EACH; i++) {
            String text = texts.text(TEXT_LIMIT);
            int fuel = texts.oneIn(3) ? texts.below(40) - 2 : Session.PLENTY;
            String answer = session.go(text, fuel);
            oracle.run(text, fuel);
            FAULTS[oracle.fault]++;
            String due = oracle.fault == 0 ? String.valueOf(oracle.steps) : Session.due(oracle.fault);
            CHECK.same(text + " with " + fuel, answer + " " + state(session), due + " " + state(oracle));
        }
    }

    private static String state(Session session) {
        StringBuilder state = new StringBuilder();
        state.append(session.run.fault()).append(' ').append(session.run.steps()).append(' ');
        state.append(session.run.scale()).append(' ').append(session.out());
        for (char c = 'a'; c <= 'z'; c++) {
            state.append(session.variable(c)).append(' ');
        }
        return state.toString();
    }

    private static String state(Oracle oracle) {
        StringBuilder state = new StringBuilder();
        state.append(oracle.fault).append(' ').append(oracle.steps).append(' ');
        state.append(oracle.scale).append(' ').append(oracle.out);
        for (char c = 'a'; c <= 'z'; c++) {
            state.append(oracle.variable(c).unscaledValue()).append('e');
            state.append(oracle.variable(c).scale()).append(' ');
        }
        return state.toString();
    }
}
