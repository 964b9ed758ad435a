/** Runs texts with DecimalRun and with the oracle, and compares all that is left behind. */
final class Compared {
    final Check check = new Check();
    final int[] faults = new int[9];
    private Session session = new Session();
    private Oracle oracle = new Oracle();

    /** The texts from here on run on new objects. */
    void anew() {
        session = new Session();
        oracle = new Oracle();
    }

    void run(String text, int fuel) {
        String answer = session.go(text, fuel);
        oracle.run(text, fuel);
        faults[oracle.fault]++;
        String due = oracle.fault == 0 ? String.valueOf(oracle.steps) : Session.due(oracle.fault);
        check.same(text + " with " + fuel, answer + " " + session.left() + session.numbers(),
            due + " " + left(oracle) + numbers(oracle));
    }

    /** Each of these faults was met, so that the texts are not all of one kind. */
    void end(int... met) {
        for (int fault : met) {
            System.out.println("fault " + fault + ": " + faults[fault] + " runs");
            check.isTrue("fault " + fault + " was met often", faults[fault] > 100);
        }
        check.end();
    }

    private static String left(Oracle oracle) {
        return "fault " + oracle.fault + ", " + oracle.steps + " steps, output " + oracle.out;
    }

    private static String numbers(Oracle oracle) {
        StringBuilder numbers = new StringBuilder("scale " + oracle.scale);
        for (char name = 'a'; name <= 'z'; name++) {
            numbers.append(' ').append(oracle.variable(name).unscaledValue());
            numbers.append('e').append(oracle.variable(name).scale());
        }
        return numbers.toString();
    }
}
