import java.io.IOException;
import java.nio.file.Files;
import java.nio.file.Path;
import java.util.regex.Matcher;
import java.util.regex.Pattern;

/** What README.md says of its texts holds; run in the project's folder, as .ci/run does. */
public final class ReadmeTest extends Cases {
    private static final Pattern WRITES = Pattern.compile("(?m)^\\| `(.*)` \\| `([-0-9. ]*)` \\|$");
    private static final Pattern FAULT = Pattern.compile("(?m)^\\| ([1-8]) \\| `(\\w+)` \\| .* \\| `(.*)` \\|$");
    private static final Pattern USE = Pattern.compile("String text = \"(.*)\";");

    public static void main(String[] args) throws IOException {
        String readme = Files.readString(Path.of("README.md"));
        use(readme);
        textsWrite(readme);
        textsFail(readme);
        CHECK.end();
    }

    private static void use(String readme) {
        Matcher use = USE.matcher(readme);
        CHECK.isTrue("a use is shown", use.find());
        DecimalRun calculator = new DecimalRun();
        for (char c : use.group(1).toCharArray()) {
            calculator.feed(c);
        }
        said(readme, "int steps = calculator.run(100);", calculator.run(100) + " of the 100");
        said(readme, "calculator.variable('x' - 'a');", String.valueOf(calculator.variable('x' - 'a')));
        said(readme, "calculator.decimals('x' - 'a');", String.valueOf(calculator.decimals('x' - 'a')));
        said(readme, "System.out.print((char) calculator.out(i));", gives(use.group(1), "3.428").out().trim());
    }

    /** Behind the call a comment begins with this answer. */
    private static void said(String readme, String call, String answer) {
        String line = Pattern.quote(call) + " +// " + Pattern.quote(answer) + "\\b";
        CHECK.isTrue(call + " is said to be " + answer, Pattern.compile(line).matcher(readme).find());
    }

    private static void textsWrite(String readme) {
        int rows = 0;
        for (Matcher row = WRITES.matcher(readme); row.find(); rows++) {
            gives(row.group(1), row.group(2));
        }
        CHECK.same("rows of texts that write", rows, 8);
    }

    private static void textsFail(String readme) {
        int rows = 0;
        for (Matcher row = FAULT.matcher(readme); row.find(); rows++) {
            Session session = new Session();
            CHECK.same(row.group(3) + " throws", session.go(row.group(3), Session.PLENTY), row.group(2));
            CHECK.same(row.group(3) + " has the fault", session.run.fault(), Integer.parseInt(row.group(1)));
        }
        CHECK.same("rows of faults", rows, 8);
    }
}
