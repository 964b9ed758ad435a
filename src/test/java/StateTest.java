/** The promises about text and state: all but what a text means, which LanguageTest looks at. */
public final class StateTest {
    private static final Check CHECK = new Check();

    public static void main(String[] args) {
        newObject();
        feedTakesUpToFour();
        feedStopsAtTheLimit();
        clearEmptiesTheTextAlone();
        resetForgetsNumbersAlone();
        runAnswersItsSteps();
        fuelHasLimits();
        faultAndStepsAreTheLatest();
        outputIsTheLatest();
        variablesHaveEdges();
        numbersStayFromRunToRun();
        objectsAreApart();
        CHECK.end();
    }

    private static void newObject() {
        DecimalRun run = new DecimalRun();
        CHECK.same("new: length", run.length(), 0);
        CHECK.same("new: outLength", run.outLength(), 0);
        CHECK.same("new: out(0)", run.out(0), -1);
        CHECK.same("new: fault", run.fault(), 0);
        CHECK.same("new: steps", run.steps(), 0);
        CHECK.same("new: scale", run.scale(), 0);
        for (int c = 0; c < 26; c++) {
            CHECK.same("new: variable " + c, run.variable(c), 0);
            CHECK.same("new: decimals " + c, run.decimals(c), 0);
        }
        CHECK.same("new: run", run.run(0), 0);
    }

    private static void feedTakesUpToFour() {
        DecimalRun run = new DecimalRun();
        CHECK.same("feed nothing", run.feed(0), 0);
        CHECK.same("feed 0 first", run.feed('7' << 8), 0);
        CHECK.same("feed one", run.feed('7'), 1);
        CHECK.same("feed up to the 0", run.feed('8' | '9' << 16), 1);
        CHECK.same("feed three", run.feed('*' | '2' << 8 | ';' << 16), 3);
        CHECK.same("feed four", run.feed('1' | '+' << 8 | '2' << 16 | '+' << 24), 4);
        CHECK.same("length of all", run.length(), 9);
        CHECK.same("feed all bits", run.feed(-1), 4);
        CHECK.same("length with high codes", run.length(), 13);
        Session session = new Session();
        CHECK.isTrue("fed", session.feed("12345*2;3"));
        session.go(Session.PLENTY);
        CHECK.same("characters in order", session.out(), "24690\n3\n");
    }

    private static void feedStopsAtTheLimit() {
        Session session = new Session();
        CHECK.isTrue("198 fit", session.feed(";".repeat(198)));
        CHECK.same("three too many", session.run.feed(Session.word("1+2")), -1);
        CHECK.same("none was taken", session.run.length(), 198);
        CHECK.same("two fit", session.run.feed(Session.word("47")), 2);
        CHECK.same("200", session.run.length(), 200);
        CHECK.same("none fits", session.run.feed('1'), -1);
        CHECK.same("nothing always fits", session.run.feed(0), 0);
        CHECK.same("a full text runs", session.go(1), "1");
        CHECK.same("a full text's output", session.out(), "47\n");
        CHECK.same("the text stays", session.run.length(), 200);
    }

    private static void clearEmptiesTheTextAlone() {
        Session session = new Session();
        session.go("scale=2;x=1.5;x;1/0", 9);
        session.run.clear();
        CHECK.same("clear: length", session.run.length(), 0);
        CHECK.same("clear: output", session.out(), "1.5\n");
        CHECK.same("clear: fault", session.run.fault(), 2);
        CHECK.same("clear: steps", session.run.steps(), 4);
        CHECK.same("clear: scale", session.run.scale(), 2);
        CHECK.same("clear: x", session.variable('x'), "15e1");
        CHECK.same("clear: feeds anew", session.run.feed('x'), 1);
        CHECK.same("clear: runs anew", session.go(9), "1");
        CHECK.same("clear: output anew", session.out(), "1.5\n");
    }

    private static void resetForgetsNumbersAlone() {
        Session session = new Session();
        session.go("scale=3;a=1.25;z=-7;a;1/0", 9);
        session.run.reset();
        CHECK.same("reset: a", session.variable('a'), "0e0");
        CHECK.same("reset: z", session.variable('z'), "0e0");
        CHECK.same("reset: scale", session.run.scale(), 0);
        CHECK.same("reset: length", session.run.length(), 25);
        CHECK.same("reset: output", session.out(), "1.25\n");
        CHECK.same("reset: fault", session.run.fault(), 2);
        CHECK.same("reset: steps", session.run.steps(), 5);
    }

    private static void runAnswersItsSteps() {
        Session session = new Session();
        CHECK.same("empty text", session.go("", 0), "0");
        CHECK.same("three statements", session.go("1;x=2;scale=1", 9), "3");
        CHECK.same("no statements", session.go(";\n{};{{;};};define f(x){};", 0), "0");
        CHECK.same("again, the text stays", session.go(0), "0");
        CHECK.same("a faulty text", session.go("1;2;", 1), "IllegalStateException");
        CHECK.same("enough fuel", session.go(2), "2");
    }

    private static void fuelHasLimits() {
        Session session = new Session();
        session.go("while(0<1)x=x+1", Integer.MAX_VALUE);
        CHECK.same("most fuel", session.run.steps(), 2000);
        CHECK.same("most fuel's work", session.variable('x'), "1000e0");
        CHECK.same("2001 is too much", session.go(2001), "IllegalStateException");
        CHECK.same("2001 counts as 2000", session.run.steps(), 2000);
        session.go(1999);
        CHECK.same("1999 is not", session.run.steps(), 1999);
        CHECK.same("below 0", session.go("1", Integer.MIN_VALUE), "IllegalStateException");
        CHECK.same("below 0 counts as 0", session.run.steps(), 0);
        CHECK.same("below 0, nothing to do", session.go("", -1), "0");
        session.run.reset();
        CHECK.same("just enough", session.go("while(x<999)x=x+1;7", 2000), "2000");
        session.run.reset();
        CHECK.same("just too little", session.go("while(x<999)x=x+1;7;8", 2000), Session.due(4));
    }

    private static void faultAndStepsAreTheLatest() {
        Session session = new Session();
        session.go("1;2;1/0;3", 9);
        CHECK.same("fault 2", session.run.fault(), 2);
        CHECK.same("its steps", session.run.steps(), 3);
        session.go("1;2", 9);
        CHECK.same("no fault", session.run.fault(), 0);
        CHECK.same("all steps", session.run.steps(), 2);
        session.go("1;2;)", 9);
        CHECK.same("fault 1", session.run.fault(), 1);
        CHECK.same("no steps", session.run.steps(), 0);
        CHECK.same("no output", session.run.outLength(), 0);
        session.run.clear();
        CHECK.same("the fault stays", session.run.fault(), 1);
        CHECK.same("and goes", session.go(9), "0");
        CHECK.same("without a fault", session.run.fault(), 0);
    }

    private static void outputIsTheLatest() {
        Session session = new Session();
        session.go("12;-3", 9);
        CHECK.same("outLength", session.run.outLength(), 6);
        CHECK.same("out(0)", session.run.out(0), (int) '1');
        CHECK.same("out(2)", session.run.out(2), 10);
        CHECK.same("out(3)", session.run.out(3), (int) '-');
        CHECK.same("out(5)", session.run.out(5), 10);
        CHECK.same("out(6)", session.run.out(6), -1);
        CHECK.same("out(-1)", session.run.out(-1), -1);
        CHECK.same("out(300)", session.run.out(300), -1);
        CHECK.same("out(most)", session.run.out(Integer.MAX_VALUE), -1);
        CHECK.same("out(least)", session.run.out(Integer.MIN_VALUE), -1);
        session.go("4", 9);
        CHECK.same("a new output", session.out(), "4\n");
        CHECK.same("no old output behind it", session.run.out(2), -1);
    }

    private static void variablesHaveEdges() {
        Session session = new Session();
        session.go("a=-1.50;z=999999999;y=-999999999", 9);
        CHECK.same("a", session.variable('a'), "-150e2");
        CHECK.same("y", session.variable('y'), "-999999999e0");
        CHECK.same("z", session.variable('z'), "999999999e0");
        for (int c : new int[] {-1, 26, Integer.MIN_VALUE, Integer.MAX_VALUE}) {
            CHECK.same("variable " + c, session.run.variable(c), 0);
            CHECK.same("decimals " + c, session.run.decimals(c), -1);
        }
    }

    private static void numbersStayFromRunToRun() {
        Session session = new Session();
        session.go("scale=2;x=0.125", 9);
        session.go("x;1/3;scale", 9);
        CHECK.same("they stay", session.out(), "0.125\n0.33\n2\n");
        session.go("x=9;scale=3;(", 9);
        CHECK.same("a faulty text leaves x", session.variable('x'), "125e3");
        CHECK.same("a faulty text leaves the scale", session.run.scale(), 2);
        session.go("define f(y){return y}", 9);
        CHECK.same("functions do not stay", session.go("f(1)", 9), Session.due(6));
    }

    private static void objectsAreApart() {
        Session first = new Session();
        Session second = new Session();
        first.go("x=5;scale=1;x", 9);
        CHECK.same("the other's x", second.variable('x'), "0e0");
        CHECK.same("the other's scale", second.run.scale(), 0);
        CHECK.same("the other's text", second.run.length(), 0);
        CHECK.same("the other's output", second.run.outLength(), 0);
    }
}
