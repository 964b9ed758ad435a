/**
 * The limits of a run, in the order of the document's "Terms": statements, calls, steps, and the
 * faults 1 to 8 with the order in which they come. A test for each sentence, at the last input within
 * the limit and at the first beyond it.
 */
public final class RunEdgeTest extends Cases {
    private static final String CHAIN = "define a(x){return b(x)};define b(x){return c(x)};define c(x){return d(x)};";
    private static final String COUNTDOWN = "define f(n){if(n<2)return 1;return 1+f(n-1)};";

    public static void main(String[] args) {
        statementsOneAfterTheOther();
        definitionsAreKnownFromTheBeginning();
        ifLooksOnce();
        whileLooksAgain();
        argumentBeforeParameter();
        listIsDoneUpToAReturn();
        parameterBecomesWhatItWas();
        callWithoutReturnIsZero();
        leftSideBeforeRight();
        eachStatementMakesAStep();
        listsMakeNoStep();
        whileMakesAStepForEachLook();
        stepsWithinCalls();
        fault1NothingWasDone();
        fault2DivisionByZero();
        fault3OutOfRange();
        fault4Fuel();
        fault4AtEveryStep();
        fault5ExponentAndScale();
        fault6NoFunction();
        fault7FifthCall();
        fault7OpenCallsAlone();
        fault8OutputOf300();
        fault8NothingOfTheNumber();
        faultsEndARunAtOnce();
        parametersStayToo();
        sixBeforeSeven();
        argumentsFaultsFirst();
        threeForEachOperation();
        firstFaultInOrderOfWork();
        CHECK.end();
    }

    /** "the statements of the program one after the other". */
    private static void statementsOneAfterTheOther() {
        gives("", "");
        gives("x;x=1;x;{x=x+1;x};x", "0 1 2 2");
        gives("scale=1;1/4;scale=2;1/4;x=1/4;x", "0.2 0.25 0.25");
    }

    /** "(definitions are known from the beginning)". */
    private static void definitionsAreKnownFromTheBeginning() {
        gives("f(1);define f(x){return x+g(x)};define g(x){return 1};f(2)", "2 3");
        Session session = gives("f(1);define f(x){return x}", "1");
        CHECK.same("not in the next text", session.go("f(1)", 9), Session.due(6));
        CHECK.same("not in the next text: fault", session.run.fault(), 6);
    }

    /** "An if does its statement if C holds". */
    private static void ifLooksOnce() {
        gives("if(0<1)7", "7");
        gives("if(1<1)7", "");
        gives("if(x<3)x=x+1;x;if(0<1){};if(0<1)if(1<0)7;if(0<1){8;9}", "1 8 9");
    }

    /** "a while as long as C holds". */
    private static void whileLooksAgain() {
        gives("while(x<0)x=x+1;x", "0");
        gives("while(x<1)x=x+1;x", "1");
        gives("while(x<2)x=x+1;x", "2");
        gives("while(x<3){x=x+1;y=0;while(y<x)y=y+1;y}", "1 2 3");
    }

    /** "In a call the argument is worked out; then the parameter (a variable) becomes it". */
    private static void argumentBeforeParameter() {
        gives("define f(x){return x};x=5;f(x+1);f(f(x)+x);f(2.50)", "6 10 2.50");
        gives("define f(x){y=x;x=7;return y};f(3);x;y", "3 0 3");
    }

    /** "the function's list is done up to a return". */
    private static void listIsDoneUpToAReturn() {
        gives("define f(x){1;return 2;3};f(0)", "1 2");
        gives("define f(x){return 2;1/0};f(0)", "2");
        gives("define f(x){{{return 2};3};4};f(0);5", "2 5");
        gives("define f(x){while(0<1){x=x+1;if(x>3)return x}};f(0);f(9)", "4 10");
        gives("define f(x){if(x<0)return 0-x};f(-2);f(2)", "2 0");
    }

    /** "the parameter becomes what it was before the call". */
    private static void parameterBecomesWhatItWas() {
        gives("define f(x){x=x+1;return x};x=1.50;f(8);x", "9 1.50");
        gives("define f(x){};x=1.50;f(8);x", "0 1.50");
        gives("define f(x){x=9};f(8);x", "0 0");
        gives(COUNTDOWN + "n=7;f(4);n", "4 7");
        gives("define f(x){y=9;return x};y=1;f(2);y", "2 9");
        gives("define f(x){return g(x)+x};define g(x){x=x*10;return x};f(2);x", "22 0");
        CHECK.same("x", gives("define f(x){x=1};x=-0.25;f(2)", "0").variable('x'), "-25e2");
    }

    /** "the call is worth what was returned, 0 without decimals if nothing was". */
    private static void callWithoutReturnIsZero() {
        gives("define f(x){};f(1.5)", "0");
        gives("define f(x){x=2.50};f(1.5);x=f(1)+1.0;x", "0 1.0");
        gives("define f(x){return 2.50};f(1);f(1)*2", "2.50 5.00");
        gives("define f(x){return 0.00};f(1)", "0.00");
        gives("define f(x){};5-f(1);5-2*f(1);2^f(1);f(1)-5;if(5>f(1))7", "5 5 1 -5 7");
        CHECK.same("y=f(1)", gives("define f(x){};y=0.5;y=f(1)", "").variable('y'), "0e0");
    }

    /** "The left side of an operation is worked out before the right one." */
    private static void leftSideBeforeRight() {
        String next = "define f(x){y=y+1;y;return y};";
        for (String operator : new String[] {"+", "-", "*", "/", "%", "^"}) {
            gives(next + "z=f(0)" + operator + "f(0)", "1 2");
        }
        gives(next + "y-f(0)", "1 -1");
        gives(next + "f(0)-y", "1 0");
        gives(next + "y+f(0)*y", "1 1");
        gives(next + "if(f(0)<f(0))7;if(y<f(0))8", "1 2 7 3 8");
    }

    /** "each statement that is no { LIST } makes one when it is begun". */
    private static void eachStatementMakesAStep() {
        makes("", 0);
        makes("1", 1);
        makes("x=1", 1);
        makes("scale=1", 1);
        makes("if(1<0)1", 1);
        makes("if(0<1)1", 2);
        makes("if(0<1)if(0<1)1", 3);
        makes("while(1<0)1", 1);
        makes("1;2;3", 3);
        makes("1/1+2*3-4^1", 1);
        Session session = new Session();
        CHECK.same("the step is made before the statement's fault", session.go("1/0", 1), Session.due(2));
        CHECK.same("that step counts", session.run.steps(), 1);
        CHECK.same("without fuel it is not begun", session.go(0), Session.due(4));
        CHECK.same("without fuel: fault", session.run.fault(), 4);
        CHECK.same("without fuel: steps", session.run.steps(), 0);
    }

    /** The same: a { LIST }, a definition and a separator make none. */
    private static void listsMakeNoStep() {
        makes("{}", 0);
        makes("{{};{;}};;\n", 0);
        makes("define f(x){1;2;3}", 0);
        makes("{1}", 1);
        makes("{{1;2};{3}}", 3);
        makes("if(0<1){}", 1);
        makes("if(0<1){1;2}", 3);
    }

    /** "and a while one more each time it looks at its condition again". */
    private static void whileMakesAStepForEachLook() {
        makes("while(x<1)x=x+1", 3);
        makes("while(x<2)x=x+1", 5);
        makes("while(x<9){x=x+1}", 19);
        makes("while(x<2){x=x+1;1;2}", 9);
        makes("while(x<2){y=0;while(y<2)y=y+1;x=x+1}", 17);
        Session session = new Session();
        CHECK.same("an empty loop ends by its fuel", session.go("while(0<1){}", 7), Session.due(4));
        CHECK.same("an empty loop's steps", session.run.steps(), 7);
        CHECK.same("no look without its step", session.go("x=1;while(1/x>0)x=x-1", 3), Session.due(4));
        CHECK.same("no look without its step: fault", session.run.fault(), 4);
        CHECK.same("with its step it looks", session.go(4), Session.due(2));
        CHECK.same("with its step: fault", session.run.fault(), 2);
        CHECK.same("with its step: steps", session.run.steps(), 4);
    }

    /** Steps of a function's statements are the run's too. */
    private static void stepsWithinCalls() {
        makes("define f(x){};f(1)", 1);
        makes("define f(x){};f(1)+f(f(2))", 1);
        makes("define f(x){return x};f(1)+f(f(2))", 4);
        makes("define f(x){x=1;{y=2};return 3;4};f(1)", 4);
        makes("define f(x){while(0<1)return x};f(1)", 3);
        makes(COUNTDOWN + "f(4)", 9);
    }

    /** "1 the text is faulty (nothing was done, the output is empty)". */
    private static void fault1NothingWasDone() {
        Session session = gives("x=1;scale=1;x;12345", "1 12345");
        CHECK.same("a faulty text", session.go("x=2;scale=2;x;;)", 9), Session.due(1));
        CHECK.same("fault 1", session.run.fault(), 1);
        CHECK.same("fault 1: x", session.variable('x'), "1e0");
        CHECK.same("fault 1: scale", session.run.scale(), 1);
        CHECK.same("fault 1: outLength", session.run.outLength(), 0);
        CHECK.same("fault 1: out(0)", session.run.out(0), -1);
        CHECK.same("fault 1: steps", session.run.steps(), 0);
        CHECK.same("fault 1 comes before fault 4", session.go(-1), Session.due(1));
        CHECK.same("a faulty text's fault", session.run.fault(), 1);
    }

    /** "2 a / or % by 0 (also that of ^)". */
    private static void fault2DivisionByZero() {
        gives("1/0.0001;1/-0.0001;1%0.0001;1%-0.0001;0/1;0%1;0/-1", "10000 -10000 0.0000 0.0000 0 0 0");
        for (String zero : new String[] {"0", "0.0", "0.0000", "-0", "(2-2.00)", "x", "scale", "(1/2)"}) {
            for (String division : new String[] {"1/#", "1%#", "0/#", "0%#", "-1/#", "#^-1", "#^-99"}) {
                fails("7;" + division.replace("#", zero) + ";8", 2, "7");
            }
        }
        gives("1/0.1*0;scale=4;0.0001^-1;0.01^-2", "0 10000.0000 10000.0000");
        fails("scale=4;0.01^-3", 2, "");
        fails("0.1^-2", 2, "");
    }

    /** "3 a value ... is no number, its m would be out of range". */
    private static void fault3OutOfRange() {
        CHECK.same("x stays", fails("x=999999999;x=x+1", 3, "").variable('x'), "999999999e0");
        CHECK.same("x stays", fails("x=-999999999;x=x-1", 3, "").variable('x'), "-999999999e0");
        fails("7;999999999*2;8", 3, "7");
        fails("7;if(999999999+1>0)8;9", 3, "7");
        fails("7;x=999999999*10-999999999*9;8", 3, "7");
        fails("define f(x){return x};f(999999999+1)", 3, "");
        fails("scale=999999999+1", 3, "");
    }

    /** "4 a step would be one more than the fuel". */
    private static void fault4Fuel() {
        Session session = new Session();
        CHECK.same("no step, no fuel", session.go("{};;define f(x){1}", 0), "0");
        CHECK.same("one step, no fuel", session.go("1", 0), Session.due(4));
        CHECK.same("one step, no fuel: output", session.out(), "");
        CHECK.same("one step, one fuel", session.go("1", 1), "1");
        CHECK.same("two steps, one fuel", session.go("1;2", 1), Session.due(4));
        CHECK.same("two steps, one fuel: output", session.out(), "1\n");
        CHECK.same("two steps, two fuel", session.go("1;2", 2), "2");
        CHECK.same("2000 steps", Session.fresh("while(x<999)x=x+1;7", 2000), "2000");
        CHECK.same("2001 steps", Session.fresh("while(x<1000)x=x+1", 2000), Session.due(4));
    }

    /** The same wherever a step may come: each fuel ends the run behind so many steps. */
    private static void fault4AtEveryStep() {
        String text = "define f(x){if(x<2){return 1};while(x>2){x=x-1};y=y+1;return x};f(4);if(y>0){scale=1;y};y=f(1)";
        int all = Integer.parseInt(Session.fresh(text, 2000));
        CHECK.same("all steps", all, 15);
        for (int fuel = 0; fuel < all; fuel++) {
            Session session = new Session();
            CHECK.same("with " + fuel, session.go(text, fuel), Session.due(4));
            CHECK.same("with " + fuel + ": fault", session.run.fault(), 4);
            CHECK.same("with " + fuel + ": steps", session.run.steps(), fuel);
        }
    }

    /** "5 an exponent is not as said, or the scale would not be a whole number 0 .. 4". */
    private static void fault5ExponentAndScale() {
        gives("1^99;1^-99;scale=0;scale=4;scale=4.0000;scale", "1 1 4");
        fails("7;1^100;8", 5, "7");
        fails("7;1^-100;8", 5, "7");
        fails("7;1^0.5;8", 5, "7");
        fails("7;1^99.0001;8", 5, "7");
        fails("7;scale=5;8", 5, "7");
        fails("7;scale=-1;8", 5, "7");
        fails("7;scale=4.0001;8", 5, "7");
        fails("7;scale=-0.0001;8", 5, "7");
    }

    /** "6 a call of a name that is no function". */
    private static void fault6NoFunction() {
        for (char name = 'a'; name <= 'z'; name++) {
            char other = name == 'z' ? 'a' : (char) (name + 1);
            gives("define " + name + "(x){return 7};" + name + "(0)", "7");
            fails("7;define " + other + "(x){return 7};" + name + "(0);8", 6, "7");
        }
        fails("x=1;x(1)", 6, "");
        fails("define f(x){return x};f(1);x(1)", 6, "1");
        gives("if(1<0)g(1);7", "7");
        gives("define f(x){return g(x)};7", "7");
    }

    /** "7 a fifth call within four". */
    private static void fault7FifthCall() {
        CHECK.same("n is 1 again", gives(COUNTDOWN + "n=1;f(1);f(2);f(3);f(4)", "1 2 3 4").variable('n'), "1e0");
        CHECK.same("n stays", fails(COUNTDOWN + "7;f(5);8", 7, "7").variable('n'), "2e0");
        gives(CHAIN + "define d(x){return x};a(7)", "7");
        fails(CHAIN + "define d(x){return a(x)};a(7)", 7, "");
        fails(CHAIN + "define d(x){return e(x)};define e(x){};a(7)", 7, "");
        gives(CHAIN + "define d(x){return e(x)};define e(x){};b(7)", "0");
        fails("define f(x){f(x)};f(1)", 7, "");
        fails("define f(x){return f(x)};f(1)", 7, "");
        fails("define f(x){if(f(x)<1)1};f(1)", 7, "");
        fails("define f(x){scale=f(x)};f(1)", 7, "");
    }

    /** The same: calls that have ended, and those of an argument, do not count. */
    private static void fault7OpenCallsAlone() {
        gives("define f(x){return x+1};f(0)+f(0)+f(0)+f(0)+f(0)+f(0);f(0);f(0);f(0);f(0);f(0)", "6 1 1 1 1 1");
        gives("define f(x){return x+1};f(f(f(f(f(f(0))))))", "6");
        gives(CHAIN + "define d(x){return x+1};a(a(a(a(a(0)))))", "5");
        gives("define f(x){return x};while(x<9)x=f(x)+1;x", "9");
        Session session = fails(COUNTDOWN + "f(5)", 7, "");
        CHECK.same("the next run begins without calls", session.go(COUNTDOWN + "f(4)", 99), "9");
        CHECK.same("its output", session.out(), "4\n");
    }

    /** "8 the output would be longer than 300 characters", with lines of every length there is. */
    private static void fault8OutputOf300() {
        String[] lines = {"7", "-7", "0.7", "-0.7", "12345", "12.345", "-2.3456", "12345678", "123456789", "-123456789",
            "-12345.6789"};
        for (String line : lines) {
            for (int left = line.length(); left <= line.length() + 1; left++) {
                int before = 300 - left;
                Session session = filled(before, line);
                boolean fits = before + line.length() + 1 <= 300;
                CHECK.same(line + " behind " + before + ": fault", session.run.fault(), fits ? 0 : 8);
                CHECK.same(line + " behind " + before + ": length", session.run.outLength(), fits ? 300 : before);
                String end = fits ? "\n" + line + "\n" : "\n0\n";
                CHECK.isTrue(line + " behind " + before + ": end", session.out().endsWith(end));
            }
        }
        Session session = new Session();
        CHECK.same("301", session.go("while(0<1)123456789", 2000), Session.due(8));
        CHECK.same("301: outLength", session.run.outLength(), 300);
        CHECK.same("301: out(299)", session.run.out(299), 10);
        CHECK.same("301: out(300)", session.run.out(300), -1);
    }

    /** Runs a text that writes so many characters, in lines of two and perhaps one of three, and then the line. */
    private static Session filled(int characters, String line) {
        Session session = new Session();
        String odd = characters % 2 == 1 ? "10;" : "";
        int lines = (characters - (odd.isEmpty() ? 0 : 3)) / 2;
        session.go(odd + "while(y<" + lines + "){y=y+1;0};" + line, Session.PLENTY);
        return session;
    }

    /** "(then nothing of this number is written)". */
    private static void fault8NothingOfTheNumber() {
        Session session = filled(298, "10");
        CHECK.same("fault 8", session.run.fault(), 8);
        CHECK.same("outLength", session.run.outLength(), 298);
        CHECK.same("out(297)", session.run.out(297), 10);
        for (int i = 298; i <= 301; i++) {
            CHECK.same("out(" + i + ")", session.run.out(i), -1);
        }
        CHECK.same("its step is made", session.run.steps(), 1 + 3 * 149 + 1);
        session = filled(299, "7;8");
        CHECK.same("a shorter one later is not written either", session.run.outLength(), 299);
        session = filled(298, "7;x=5");
        CHECK.same("300 are no fault", session.run.fault(), 0);
        CHECK.same("behind 300 the run goes on", session.variable('x'), "5e0");
    }

    /** "FAULTS end a run at once; the variables, the scale and the output stay as they are then". */
    private static void faultsEndARunAtOnce() {
        String[] breaks = {"1/0", "999999999+1", "scale=5", "g(1)", "f(1)"};
        int[] faults = {2, 3, 5, 6, 7};
        for (int i = 0; i < breaks.length; i++) {
            String text = "define f(z){f(z)};x=1.5;scale=2;x;" + breaks[i] + ";x=2;scale=3;x";
            Session session = fails(text, faults[i], "1.5");
            CHECK.same(breaks[i] + ": x", session.variable('x'), "15e1");
            CHECK.same(breaks[i] + ": scale", session.run.scale(), 2);
        }
        Session session = new Session();
        CHECK.same("fault 4", session.go("x=1.5;scale=2;x;x=2;scale=3;x", 3), Session.due(4));
        CHECK.same("fault 4: x", session.variable('x'), "15e1");
        CHECK.same("fault 4: scale", session.run.scale(), 2);
        CHECK.same("fault 4: output", session.out(), "1.5\n");
        session = new Session();
        CHECK.same("fault 8", session.go("x=1.5;scale=2;while(0<1)123456789;x=2", 2000), Session.due(8));
        CHECK.same("fault 8: x", session.variable('x'), "15e1");
        fails("7;x=1+(2*(3/0));8", 2, "7");
        fails("7;while(0<1){if(0<1){1/0;8}};9", 2, "7");
        CHECK.same("nothing is assigned", fails("x=3;x=1/0", 2, "").variable('x'), "3e0");
    }

    /** "(parameters too)". */
    private static void parametersStayToo() {
        Session session = fails("define f(x){x=x+1;1/0};x=5;f(7)", 2, "");
        CHECK.same("x is f's", session.variable('x'), "8e0");
        session = fails("define f(x){g(x+1);x=0};define g(y){return h(y)};f(1)", 6, "");
        CHECK.same("x", session.variable('x'), "1e0");
        CHECK.same("y", session.variable('y'), "2e0");
        session = fails("define f(x){return x};x=5;f(1/0)", 2, "");
        CHECK.same("not yet the parameter", session.variable('x'), "5e0");
        session = fails(COUNTDOWN + "n=9;f(6)", 7, "");
        CHECK.same("n is the fourth call's", session.variable('n'), "3e0");
        CHECK.same("the next run begins with it", session.go("n", 1), "1");
        CHECK.same("its output", session.out(), "3\n");
    }

    /** "In a call 6 comes before 7". */
    private static void sixBeforeSeven() {
        fails(CHAIN + "define d(x){return e(x)};a(1)", 6, "");
        fails(CHAIN + "define d(x){return e(x)};define e(x){};a(1)", 7, "");
        fails(CHAIN + "define d(x){return e(a(x))};a(1)", 7, "");
    }

    /** "both behind the argument's faults". */
    private static void argumentsFaultsFirst() {
        fails("g(1/0)", 2, "");
        fails("g(999999999+1)", 3, "");
        fails("g(1^100)", 5, "");
        fails("define f(x){f(x)};g(f(1))", 7, "");
        fails(CHAIN + "define d(x){return a(1/0)};a(1)", 2, "");
        fails(CHAIN + "define d(x){return a(999999999+1)};a(1)", 3, "");
        fails(CHAIN + "define d(x){return a(1^100)};a(1)", 5, "");
        fails(CHAIN + "define d(x){return a(e(1))};a(1)", 6, "");
        Session session = new Session();
        CHECK.same("its fault 4 too", session.go("define f(x){return x};g(f(1))", 1), Session.due(4));
        CHECK.same("its fault 4", session.run.fault(), 4);
        CHECK.same("with fuel it is 6", session.go(2), Session.due(6));
        CHECK.same("fault 6", session.run.fault(), 6);
    }

    /** "3 is looked at for each operation's value by itself." */
    private static void threeForEachOperation() {
        fails("999999999+1-1", 3, "");
        gives("999999999-1+1", "999999999");
        fails("999999999*2/2", 3, "");
        gives("999999999/2*2", "999999998");
        fails("-(999999999+1)", 3, "");
        fails("0*(999999999+1)", 3, "");
        fails("999999999+1*1", 3, "");
        fails("0.1*(999999999*10)", 3, "");
        fails("1/(10^9)", 3, "");
    }

    /** Otherwise the fault is the one that the work comes to first. */
    private static void firstFaultInOrderOfWork() {
        fails("1/0+g(1)", 2, "");
        fails("g(1)+1/0", 6, "");
        fails("1/g(1)", 6, "");
        fails("1/0*(999999999+1)", 2, "");
        fails("(999999999+1)/0", 3, "");
        fails("0^-100", 5, "");
        fails("0^-0.5", 5, "");
        fails("10^100", 5, "");
        fails("10^99", 3, "");
        fails("10^-99", 3, "");
        fails("(1/0)^100", 2, "");
        fails("scale=1/0", 2, "");
        fails("scale=2^100", 5, "");
        fails("if(1/0<g(1))1", 2, "");
        fails("if(g(1)<1/0)1", 6, "");
        Session session = new Session();
        session.go("while(0<1)1234567890/0", 2000);
        CHECK.same("a faulty text before all", session.run.fault(), 1);
        session.go("while(y<150){y=y+1;0};1/0", 2000);
        CHECK.same("a value's fault before the output's", session.run.fault(), 2);
        session.go("y=0;while(y<150){y=y+1;0};7", 3 * 150 + 2);
        CHECK.same("the step's fault before the output's", session.run.fault(), 4);
        session.go("y=0;while(y<150){y=y+1;0};7", 3 * 150 + 3);
        CHECK.same("with its step the output's", session.run.fault(), 8);
    }
}
