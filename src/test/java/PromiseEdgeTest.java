/**
 * The promises 1 to 13, each sentence of their own sections that names a limit or a refused call: at the
 * last input within it and at the first beyond it.
 */
public final class PromiseEdgeTest extends Cases {
    private static final int[] NO_VARIABLE = {-1, 26, -26, 97, 122, 255, 256, Integer.MIN_VALUE, Integer.MAX_VALUE};
    private static final String[] BROKEN = {
        "7;x=7.5;(", "7;x=7.5;1/0", "7;x=7.5;999999999+1", "7;x=7.5;while(0<1){}", "7;x=7.5;scale=5", "7;x=7.5;g(1)",
        "define f(y){f(y)};7;x=7.5;f(1)", "7;x=7.5;while(0<1)123456"
    };

    public static void main(String[] args) {
        promise1NewObject();
        promise2FeedsUpToBeforeTheFirst0();
        promise2FeedsEveryCode();
        promise2RefusesMoreThan200();
        promise2RefusedFeedAppendsNone();
        promise3Length();
        promise4ClearEmptiesTheText();
        promise4AllElseStays();
        promise5ResetForgets();
        promise5AllElseStays();
        promise6EmptiesTheOutput();
        promise6TextStays();
        promise6FuelBelow0();
        promise6FuelAbove2000();
        promise6HowManySteps();
        promise6Exceptions();
        promise7Fault();
        promise8Steps();
        promise9OutLength();
        promise10Out();
        promise11Variable();
        promise12Decimals();
        promise13Scale();
        anObjectHas512Calls();
        CHECK.end();
    }

    /** "An empty text and output, variables 0, scale 0, no run." */
    private static void promise1NewObject() {
        DecimalRun run = new DecimalRun();
        CHECK.same("new: length", run.length(), 0);
        CHECK.same("new: outLength", run.outLength(), 0);
        CHECK.same("new: out(0)", run.out(0), -1);
        CHECK.same("new: scale", run.scale(), 0);
        CHECK.same("new: fault", run.fault(), 0);
        CHECK.same("new: steps", run.steps(), 0);
        for (int c = 0; c < 26; c++) {
            CHECK.same("new: variable " + c, run.variable(c), 0);
            CHECK.same("new: decimals " + c, run.decimals(c), 0);
        }
        Session used = new Session();
        used.go("a=1.5;scale=3;1/0", 9);
        DecimalRun other = new DecimalRun();
        CHECK.same("beside a used one: length", other.length(), 0);
        CHECK.same("beside a used one: a", other.variable(0), 0);
        CHECK.same("beside a used one: scale", other.scale(), 0);
        CHECK.same("beside a used one: fault", other.fault(), 0);
        CHECK.same("beside a used one: steps", other.steps(), 0);
    }

    /** "Appends to the text the characters ... up to before the first that is 0: how many". */
    private static void promise2FeedsUpToBeforeTheFirst0() {
        feeds(0, 0, "");
        feeds('1', 1, "1");
        feeds('1' | '2' << 8, 2, "12");
        feeds('1' | '2' << 8 | '3' << 16, 3, "123");
        feeds('1' | '2' << 8 | '3' << 16 | '4' << 24, 4, "1234");
        feeds('2' << 8 | '3' << 16 | '4' << 24, 0, "");
        feeds('1' | '3' << 16 | '4' << 24, 1, "1");
        feeds('1' | '2' << 8 | '4' << 24, 2, "12");
        feeds('4' << 24, 0, "");
        feeds('1' | '4' << 24, 1, "1");
        feeds(Integer.MIN_VALUE, 0, "");
        feeds(-256, 0, "");
        Session session = new Session();
        session.run.feed(Session.word("12"));
        session.run.feed(0);
        session.run.feed('3' | '9' << 16);
        session.run.feed(Session.word("4567"));
        CHECK.same("one behind the other", session.go(9) + session.out(), "11234567\n");
    }

    private static void feeds(int word, int count, String written) {
        Session session = new Session();
        CHECK.same("feed(" + word + ")", session.run.feed(word), count);
        CHECK.same("feed(" + word + "): length", session.run.length(), count);
        session.go(9);
        CHECK.same("feed(" + word + "): output", session.out(), linesOf(written));
    }

    /** The same with every code, at each of the four places. */
    private static void promise2FeedsEveryCode() {
        for (int code = 1; code <= 255; code++) {
            for (int place = 0; place < 4; place++) {
                int word = 0x37373737 & ~(255 << 8 * place) | code << 8 * place;
                DecimalRun run = new DecimalRun();
                CHECK.same("feed(" + word + ")", run.feed(word), 4);
                CHECK.same("feed(" + word + "): length", run.length(), 4);
            }
        }
        CHECK.same("feed(-1)", new DecimalRun().feed(-1), 4);
        CHECK.same("feed(most)", new DecimalRun().feed(Integer.MAX_VALUE), 4);
        CHECK.same("feed(-255)", new DecimalRun().feed(-255), 4);
    }

    /** "-1, and none is, if there would be more than 200." */
    private static void promise2RefusesMoreThan200() {
        for (int before = 195; before <= 200; before++) {
            for (int more = 0; more <= 4; more++) {
                Session session = new Session();
                session.feed(";".repeat(before));
                boolean fits = before + more <= 200;
                String what = more + " behind " + before;
                CHECK.same(what, session.run.feed(Session.word("1234".substring(0, more))), fits ? more : -1);
                CHECK.same(what + ": length", session.run.length(), fits ? before + more : before);
            }
        }
    }

    /** "and none is": not even those that would fit; the text goes on as it was. */
    private static void promise2RefusedFeedAppendsNone() {
        Session session = new Session();
        session.feed(";".repeat(197) + "5");
        CHECK.same("three behind 198", session.run.feed(Session.word("678")), -1);
        CHECK.same("again", session.run.feed(Session.word("678")), -1);
        CHECK.same("length", session.run.length(), 198);
        CHECK.same("what stands there", session.go(9) + session.out(), "15\n");
        CHECK.same("two up to a 0 fit", session.run.feed('6' | '7' << 8 | '9' << 24), 2);
        CHECK.same("then none", session.run.feed('8'), -1);
        CHECK.same("but nothing does", session.run.feed(0), 0);
        CHECK.same("and nothing before a 0", session.run.feed('8' << 8), 0);
        CHECK.same("what stands there then", session.go(9) + session.out(), "1567\n");
    }

    /** "The number of characters of the text." */
    private static void promise3Length() {
        Session session = new Session();
        for (int i = 0; i < 200; i++) {
            CHECK.same("length before character " + i, session.run.length(), i);
            session.run.feed(i % 2 == 0 ? '1' : ';');
        }
        CHECK.same("length of a full text", session.run.length(), 200);
        session.run.feed('1');
        CHECK.same("length behind a refused feed", session.run.length(), 200);
        session.go(2000);
        session.run.reset();
        CHECK.same("length behind a run and a reset", session.run.length(), 200);
        session.run.clear();
        CHECK.same("length behind clear", session.run.length(), 0);
        session.run.feed(255);
        CHECK.same("any character counts", session.run.length(), 1);
    }

    /** "The text is empty". */
    private static void promise4ClearEmptiesTheText() {
        Session session = new Session();
        session.run.clear();
        CHECK.same("clear of an empty text", session.run.length(), 0);
        for (int round = 0; round < 2; round++) {
            CHECK.isTrue("200 go in", session.feed(";".repeat(200)));
            CHECK.same("a full text", session.run.feed(';'), -1);
            session.run.clear();
            CHECK.same("clear of a full text", session.run.length(), 0);
            CHECK.same("nothing to run", session.go(0), "0");
        }
        CHECK.same("a faulty text", session.go("((((", 9), Session.due(1));
        session.run.clear();
        CHECK.same("nothing of it is left", session.go(9), "0");
        CHECK.same("a shorter text", session.go("123456;7", 9) + session.go("8", 9) + session.out(), "218\n");
    }

    /** "all else stays", behind a run with a fault and one without. */
    private static void promise4AllElseStays() {
        for (String text : new String[] {"scale=3;x=-1.25;x", "scale=3;x=-1.25;x;1/0"}) {
            Session session = new Session();
            session.go(text, 9);
            String before = session.left() + session.numbers();
            session.run.clear();
            CHECK.same("clear behind " + text, session.left() + session.numbers(), before);
            CHECK.same("x behind clear", session.variable('x'), "-125e2");
        }
    }

    /** "All variables are 0 without decimals, the scale is 0". */
    private static void promise5ResetForgets() {
        Session session = new Session();
        session.run.reset();
        CHECK.same("reset of a new object", session.numbers(), new Session().numbers());
        for (char name = 'a'; name <= 'z'; name++) {
            session.go(name + "=-99999.9999;scale=4", 9);
        }
        CHECK.same("a", session.variable('a'), "-999999999e4");
        CHECK.same("z", session.variable('z'), "-999999999e4");
        session.run.reset();
        CHECK.same("scale", session.run.scale(), 0);
        for (char name = 'a'; name <= 'z'; name++) {
            CHECK.same(name + " is 0 without decimals", session.variable(name), "0e0");
        }
        CHECK.same("they are 0 in a run too", session.go("a;z;scale;7/2", 9) + session.out(), "40\n0\n0\n3\n");
    }

    /** "all else stays". */
    private static void promise5AllElseStays() {
        for (String text : new String[] {"scale=3;x=-1.25;x", "scale=3;x=-1.25;x;1/0", "x=1;("}) {
            Session session = new Session();
            session.go(text, 9);
            String before = session.left();
            session.run.reset();
            CHECK.same("reset behind " + text, session.left(), before);
            CHECK.same("reset behind " + text + ": length", session.run.length(), text.length());
            session.go(9);
            CHECK.same("the text runs again", session.left(), before);
        }
    }

    /** "Empties the output and runs the text". */
    private static void promise6EmptiesTheOutput() {
        for (String text : new String[] {"", "x=1", "x=1;(", "1/0", "g(1)"}) {
            Session session = new Session();
            session.go("123456789;2", 9);
            CHECK.same("an output", session.run.outLength(), 12);
            session.go(text, 9);
            CHECK.same("none behind " + text, session.run.outLength(), 0);
            CHECK.same("none behind " + text + ": out(0)", session.run.out(0), -1);
        }
        Session session = new Session();
        session.go("1", 9);
        session.go(0);
        CHECK.same("none without fuel", session.run.outLength(), 0);
        session.go(1);
        session.go(1);
        CHECK.same("the same text again", session.out(), "1\n");
    }

    /** "(which stays)". */
    private static void promise6TextStays() {
        for (String text : new String[] {"x=x+1;x", "x=x+1;x;1/0", "x=x+1;x;("}) {
            Session session = new Session();
            session.go(text, 9);
            CHECK.same("the text stays: " + text, session.run.length(), text.length());
            session.go(9);
            CHECK.same("and runs again: " + text, session.variable('x'), text.endsWith("(") ? "0e0" : "2e0");
        }
        Session session = new Session();
        session.go("1+", 9);
        session.run.feed('2');
        CHECK.same("what is fed goes on behind it", session.go(9) + session.out(), "13\n");
    }

    /** "below 0 counts as 0". */
    private static void promise6FuelBelow0() {
        for (int fuel : new int[] {0, -1, -2000, -2001, Integer.MIN_VALUE, Integer.MIN_VALUE + 1}) {
            Session session = new Session();
            CHECK.same("fuel " + fuel, session.go("x=1;2", fuel), Session.due(4));
            CHECK.same("fuel " + fuel + ": fault", session.run.fault(), 4);
            CHECK.same("fuel " + fuel + ": steps", session.run.steps(), 0);
            CHECK.same("fuel " + fuel + ": x", session.variable('x'), "0e0");
            CHECK.same("fuel " + fuel + " for nothing", session.go("{};define f(x){}", fuel), "0");
            CHECK.same("fuel " + fuel + " for a faulty text", session.go("(", fuel), Session.due(1));
        }
        CHECK.same("fuel 1", Session.fresh("x=1", 1), "1");
    }

    /** "above 2000 as 2000". */
    private static void promise6FuelAbove2000() {
        for (int fuel : new int[] {1999, 2000, 2001, 4000, 65536, Integer.MAX_VALUE}) {
            int counted = Math.min(fuel, 2000);
            Session session = new Session();
            CHECK.same("fuel " + fuel, session.go("while(0<1)x=x+1", fuel), Session.due(4));
            CHECK.same("fuel " + fuel + ": steps", session.run.steps(), counted);
            CHECK.same("fuel " + fuel + ": x", session.variable('x'), counted / 2 + "e0");
            String exact = "while(x<999)x=x+1";
            CHECK.same("1999 steps with fuel " + fuel, Session.fresh(exact, fuel), "1999");
            CHECK.same("2000 steps with fuel " + fuel, Session.fresh(exact + ";7", fuel),
                counted < 2000 ? Session.due(4) : "2000");
            CHECK.same("2001 steps with fuel " + fuel, Session.fresh(exact + ";7;8", fuel), Session.due(4));
        }
    }

    /** "how many steps it made". */
    private static void promise6HowManySteps() {
        CHECK.same("none", Session.fresh("", 9), "0");
        CHECK.same("one", Session.fresh("1", 9), "1");
        Session session = new Session();
        CHECK.same("three", session.go("1;2;3", 9), "3");
        CHECK.same("three again", session.go(9), "3");
        CHECK.same("the same as steps()", session.run.steps(), 3);
    }

    /** "IllegalArgumentException for fault 1; ArithmeticException for the faults 2, 3 and 5; ... the others." */
    private static void promise6Exceptions() {
        Class<?>[] due = {
            IllegalArgumentException.class, ArithmeticException.class, ArithmeticException.class,
            IllegalStateException.class, ArithmeticException.class, IllegalStateException.class,
            IllegalStateException.class, IllegalStateException.class
        };
        for (int fault = 1; fault <= 8; fault++) {
            Session session = new Session();
            session.feed(BROKEN[fault - 1]);
            Class<?> thrown = null;
            try {
                session.run.run(2000);
            } catch (RuntimeException exception) {
                thrown = exception.getClass();
            }
            CHECK.same("thrown for fault " + fault, thrown, due[fault - 1]);
            CHECK.same("its fault", session.run.fault(), fault);
        }
    }

    /** "The fault of the latest run; 0 if it had none, or there was none." */
    private static void promise7Fault() {
        Session session = new Session();
        CHECK.same("no run", session.run.fault(), 0);
        for (int fault = 1; fault <= 8; fault++) {
            session.go(BROKEN[fault - 1], 2000);
            CHECK.same("fault", session.run.fault(), fault);
            CHECK.same("asked again", session.run.fault(), fault);
            session.run.feed('1');
            session.run.clear();
            session.run.reset();
            CHECK.same("until the next run", session.run.fault(), fault);
            session.go("1", 9);
            CHECK.same("none", session.run.fault(), 0);
        }
        for (int fault = 8; fault >= 1; fault--) {
            session.go(BROKEN[fault - 1], 2000);
            CHECK.same("one behind the other", session.run.fault(), fault);
        }
        session.go("", 0);
        CHECK.same("an empty text has none", session.run.fault(), 0);
    }

    /** "The steps that the latest run made, those up to its fault; 0 if there was none." */
    private static void promise8Steps() {
        int[] due = {0, 3, 3, 2000, 3, 3, 7, 3 + 2 * 42 + 1};
        Session session = new Session();
        CHECK.same("no run", session.run.steps(), 0);
        for (int fault = 1; fault <= 8; fault++) {
            session.go("1;2;3;4", 9);
            CHECK.same("four steps", session.run.steps(), 4);
            session.go(BROKEN[fault - 1], 2000);
            CHECK.same("steps up to fault " + fault, session.run.steps(), due[fault - 1]);
            session.run.clear();
            session.run.reset();
            CHECK.same("they stay", session.run.steps(), due[fault - 1]);
        }
        session.go("", 9);
        CHECK.same("no steps", session.run.steps(), 0);
    }

    /** "The number of characters of the output of the latest run." */
    private static void promise9OutLength() {
        Session session = new Session();
        CHECK.same("no run", session.run.outLength(), 0);
        int[] due = {0, 2, 2, 2, 2, 2, 2, 2 + 7 * 42};
        for (int fault = 1; fault <= 8; fault++) {
            session.go(BROKEN[fault - 1], 2000);
            CHECK.same("up to fault " + fault, session.run.outLength(), due[fault - 1]);
        }
        session.run.reset();
        session.go("while(y<150){y=y+1;0}", 2000);
        CHECK.same("the longest", session.run.outLength(), 300);
        CHECK.same("without a fault", session.run.fault(), 0);
        session.run.clear();
        session.run.reset();
        CHECK.same("it stays", session.run.outLength(), 300);
        session.go("-12345.6789", 9);
        CHECK.same("the longest number", session.run.outLength(), 12);
        session.go("", 9);
        CHECK.same("an empty text's", session.run.outLength(), 0);
    }

    /** "The code of character i of the output (0 the first); -1 if there is none." */
    private static void promise10Out() {
        Session session = new Session();
        for (int i : new int[] {-1, 0, 1, 299, 300, Integer.MIN_VALUE, Integer.MAX_VALUE}) {
            CHECK.same("no run: out(" + i + ")", session.run.out(i), -1);
        }
        session.go("-0.5;12", 9);
        String due = "-0.5\n12\n";
        for (int i = -3; i < 12; i++) {
            CHECK.same("out(" + i + ")", session.run.out(i), i < 0 || i >= due.length() ? -1 : (int) due.charAt(i));
        }
        session.go("while(y<150){y=y+1;y%10}", 2000);
        CHECK.same("out(0) of the longest", session.run.out(0), (int) '1');
        CHECK.same("out(298)", session.run.out(298), (int) '0');
        CHECK.same("out(299)", session.run.out(299), 10);
        for (int i : new int[] {300, 301, 512, 65536, Integer.MAX_VALUE, -1, -300, Integer.MIN_VALUE}) {
            CHECK.same("out(" + i + ")", session.run.out(i), -1);
        }
        session.go("5", 9);
        CHECK.same("out(1) of a shorter one", session.run.out(1), 10);
        CHECK.same("out(2) of a shorter one", session.run.out(2), -1);
    }

    /** "The m of variable c (0 for a .. 25 for z); 0 if there is none." */
    private static void promise11Variable() {
        Session session = new Session();
        session.go("a=1.5;b=-2.00;y=999999999;z=-99999.9999", 9);
        CHECK.same("a", session.run.variable(0), 15);
        CHECK.same("b", session.run.variable(1), -200);
        CHECK.same("c", session.run.variable(2), 0);
        CHECK.same("y", session.run.variable(24), 999999999);
        CHECK.same("z", session.run.variable(25), -999999999);
        for (int c : NO_VARIABLE) {
            CHECK.same("variable(" + c + ")", session.run.variable(c), 0);
        }
    }

    /** "The decimals of variable c; -1 if there is none." */
    private static void promise12Decimals() {
        Session session = new Session();
        session.go("a=1.5;b=-2.00;w=0.000;y=999999999;z=-99999.9999", 9);
        CHECK.same("a", session.run.decimals(0), 1);
        CHECK.same("b", session.run.decimals(1), 2);
        CHECK.same("c", session.run.decimals(2), 0);
        CHECK.same("w", session.run.decimals(22), 3);
        CHECK.same("y", session.run.decimals(24), 0);
        CHECK.same("z", session.run.decimals(25), 4);
        for (int c : NO_VARIABLE) {
            CHECK.same("decimals(" + c + ")", session.run.decimals(c), -1);
        }
    }

    /** "The scale." */
    private static void promise13Scale() {
        Session session = new Session();
        CHECK.same("at first", session.run.scale(), 0);
        for (int scale = 4; scale >= 0; scale--) {
            session.go("scale=" + scale, 9);
            CHECK.same("scale", session.run.scale(), scale);
            session.go("scale=5", 9);
            session.go("scale=-1", 9);
            session.go("scale=1;(", 9);
            session.go("scale=1", 0);
            CHECK.same("it stays", session.run.scale(), scale);
        }
        session.go("scale=3;scale=2;1/0", 9);
        CHECK.same("as it was at a fault", session.run.scale(), 2);
        session.run.reset();
        CHECK.same("reset", session.run.scale(), 0);
    }

    /** "An object is used for at most 512 calls after it has been made": the last is as good as the first. */
    private static void anObjectHas512Calls() {
        DecimalRun run = new DecimalRun();
        run.feed(Session.word("x=x+"));
        run.feed(Session.word("1;x"));
        for (int call = 3; call <= 510; call++) {
            CHECK.same("run " + call, run.run(2000), 2);
        }
        CHECK.same("call 511", run.variable(23), 508);
        CHECK.same("call 512", run.outLength(), 4);
        Session session = new Session();
        session.feed("define f(x){return 1+(2*f(x/0))};1+(2*(3+f(1)*4))");
        int fed = 13;
        for (int call = fed + 1; call <= 508; call++) {
            CHECK.same("fault " + call, session.go(9), Session.due(2));
        }
        session.run.clear();
        session.run.feed(Session.word("1+2;"));
        CHECK.same("a run behind many faults", session.go(9), "1");
        CHECK.same("its output", session.run.out(0), (int) '3');
    }
}
