import java.util.Objects;

/** Counts what is not as due, and ends the program with exit code 1 if there was any. */
final class Check {
    private int looked;
    private int wrong;

    void same(String what, Object got, Object due) {
        looked++;
        if (!Objects.equals(got, due)) {
            wrong++;
            System.out.println(what + ": got " + shown(got) + ", due is " + shown(due));
        }
    }

    void isTrue(String what, boolean holds) {
        same(what, holds, true);
    }

    void end() {
        System.out.println(looked + " looked at, " + wrong + " wrong");
        if (wrong != 0) {
            System.exit(1);
        }
    }

    private static String shown(Object value) {
        return String.valueOf(value).replace("\n", "\\n");
    }
}
