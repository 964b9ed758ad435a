import java.util.ArrayList;
import java.util.List;

/**
 * The limits of a text, in the order of the document's "Terms": its characters, tokens, grammar and
 * depth. A test for each sentence, at the last input within the limit and at the first beyond it.
 */
public final class TextEdgeTest extends Cases {
    private static final String[] RESERVED = {"if", "while", "define", "return", "scale"};
    private static final String[] USES = {
        "if(0<1)7", "while(x<1)x=1", "define f(x){}", "define f(x){return 1}", "scale=1"
    };
    private static final String[] AROUND_STATEMENTS = {"{#}", "if(0<1)#", "while(0<1)#"};
    private static final String[] AROUND_EXPRESSIONS = {"(#)", "-#", "1^#", "f(#)"};
    private static final String[] WITHOUT_DEPTH = {"#", "x=#", "scale=#", "1+#", "1*#", "#-1", "2/#"};
    private static final String[] CONDITIONS = {"if(#<1)x", "if(1>=#)x", "while(#==1)x", "while(1!=#)x"};

    public static void main(String[] args) {
        textHasAtMost200Characters();
        everyCodeAlone();
        everyCodeBetweenNumerals();
        blankIs32();
        separatorsAre10AndSemicolon();
        numeralsHaveOneToNineDigits();
        decimalsOfNumeralsAreOneToFour();
        aNameIsOneLetter();
        wordsOfTwoLetters();
        wordsWithALetterWrong();
        wordsInAnothersPlace();
        tokensAreLongestOnes();
        blanksBetweenTokens();
        programHasAnyNumberOfParts();
        separatorsBetweenParts();
        listHasAnyNumberOfStatements();
        definitionsStandInTheProgramAlone();
        noNameTwiceInAText();
        returnOnlyWithinADefinition();
        conditionHasOneComparison();
        operationsHaveBothSides();
        callsHaveOneArgument();
        operationsGoFromLeftToRight();
        depthOfEachKind();
        depthOfAllKindsMixed();
        depthOfConditions();
        depthWithinADefinition();
        depthEndsWithItsKind();
        faultyTextIsNotRunAtAll();
        CHECK.end();
    }

    /** "THE TEXT has at most 200 characters." */
    private static void textHasAtMost200Characters() {
        String most = "0" + "+1".repeat(98) + "+12";
        CHECK.same("the longest text's length", most.length(), 200);
        gives(most, "110");
        Session session = new Session();
        CHECK.isTrue("201 do not go in", !session.feed(most + "3"));
        CHECK.same("201: length", session.run.length(), 200);
        CHECK.same("201: the 200 run", session.go(9), "1");
        CHECK.same("201: the output of the 200", session.out(), "110\n");
        gives(";".repeat(199) + "7", "7");
        gives(" ".repeat(199) + "7", "7");
        gives("7" + "\n".repeat(199), "7");
        faulty("x".repeat(200), "1".repeat(200), "(".repeat(200), "-".repeat(200), "{".repeat(200),
            "=".repeat(200), ";".repeat(199) + ")", "f(".repeat(100), "1^".repeat(100), "if(".repeat(66),
            "1+".repeat(100), "x=".repeat(100), ";".repeat(199) + "-", ";".repeat(198) + "x=", ";".repeat(198) + "f(");
    }

    /** "any other character is a fault": each code there is, alone in the text. */
    private static void everyCodeAlone() {
        for (int code = 1; code <= 255; code++) {
            String text = String.valueOf((char) code);
            if (code >= '0' && code <= '9') {
                gives(text, text);
            } else if (code >= 'a' && code <= 'z') {
                gives(text, "0");
            } else if (code == 32 || code == 10 || code == ';') {
                gives(text, "");
            } else {
                faulty(text);
            }
        }
    }

    /** The same between two numerals, where operators may stand too. */
    private static void everyCodeBetweenNumerals() {
        for (int code = 1; code <= 255; code++) {
            String text = "8" + (char) code + "2";
            switch (code) {
                case 10, ';' -> gives(text, "8 2");
                case '+' -> gives(text, "10");
                case '-' -> gives(text, "6");
                case '*' -> gives(text, "16");
                case '/' -> gives(text, "4");
                case '%' -> gives(text, "0");
                case '^' -> gives(text, "64");
                case '.', '0', '1', '2', '3', '4', '5', '6', '7', '8', '9' -> gives(text, text);
                default -> faulty(text);
            }
        }
    }

    /** "BLANK is the code 32." */
    private static void blankIs32() {
        gives("8\u0020+\u00202", "10");
        faulty("8\u001f+2", "8\u0021+2", "8\t+2", "8\u00a0+2");
    }

    /** "SEPARATORS are the code 10 and ;". */
    private static void separatorsAre10AndSemicolon() {
        gives("1\n2;3", "1 2 3");
        faulty("1\u00092", "1\u000b2", "1\r2", "1:2", "1,2", "1\r\n2");
    }

    /** "one or more digits ... at most nine digits in all". */
    private static void numeralsHaveOneToNineDigits() {
        gives("1;12;123456789;999999999;000000001", "1 12 123456789 999999999 1");
        faulty("1234567890", "1000000000", "0000000001", "9999999999", "12345678901234567890");
        gives("12345678.9;1234567.89;123456.789;12345.6789", "12345678.9 1234567.89 123456.789 12345.6789");
        faulty("123456789.0", "12345678.90", "1234567.890", "123456.7890", "012345.6789");
        gives("00000.0000;99999.9999", "0.0000 99999.9999");
    }

    /** "then perhaps a . and one to four digits". */
    private static void decimalsOfNumeralsAreOneToFour() {
        gives("0.1;0.12;0.123;0.1234;0.0;0.0000", "0.1 0.12 0.123 0.1234 0.0 0.0000");
        faulty("0.", "0.12345", "0.00000", "1.;2", "x=1.", "1.+2", "1.x", "(1.)");
        faulty(".", ".1", "x=.1", "1..1", "1.1.1", "-.5", "1.-5");
    }

    /** "words of small letters, of which one letter is a NAME". */
    private static void aNameIsOneLetter() {
        for (char name = 'a'; name <= 'z'; name++) {
            CHECK.same(name + " = 7.5", gives(name + "=7.5;" + name, "7.5").variable(name), "75e1");
        }
        faulty("`=1", "{=1", "@=1", "A=1", "Z=1", "[=1", "xx=1", "zz", "x1=1", "1x=1", "\u00e4=1");
    }

    /** "if, while, define, return, scale are WORDS (any other one is a fault)": of two letters, if alone. */
    private static void wordsOfTwoLetters() {
        for (char first = 'a'; first <= 'z'; first++) {
            for (char second = 'a'; second <= 'z'; second++) {
                String word = "" + first + second;
                if (word.equals("if")) {
                    gives(word + "(0<1)7", "7");
                } else {
                    faulty(word, word + "(0<1)7", word + "(1)");
                }
            }
        }
    }

    /** The same of the five words with one letter more, one less or another one. */
    private static void wordsWithALetterWrong() {
        for (int i = 0; i < RESERVED.length; i++) {
            String word = RESERVED[i];
            sound(USES[i]);
            for (String other : spoilt(word)) {
                faulty(USES[i].replace(word, other));
            }
        }
        faulty("If(0<1)7", "IF(0<1)7", "Scale=1", "i f(0<1)7", "sca le=1", "while1(0<1)7", "if;", "scale2");
    }

    /** The same of one of the five words where another is due; if and while alone may stand for each other. */
    private static void wordsInAnothersPlace() {
        for (int i = 0; i < RESERVED.length; i++) {
            String word = RESERVED[i];
            for (int j = 0; j < RESERVED.length; j++) {
                if (i != j && i + j != 1) {
                    faulty(USES[i].replace(word, RESERVED[j]));
                }
            }
            faulty("if(1 " + word + " 2)3", "1 " + word + " 2", "x " + word + " 1", word + " " + word);
        }
    }

    private static List<String> spoilt(String word) {
        List<String> others = new ArrayList<>();
        for (int at = 0; at <= word.length(); at++) {
            String before = word.substring(0, at);
            String behind = word.substring(at);
            for (char letter = 'a'; letter <= 'z'; letter++) {
                others.add(before + letter + behind);
                if (!behind.isEmpty() && behind.charAt(0) != letter) {
                    others.add(before + letter + behind.substring(1));
                }
            }
            if (!behind.isEmpty()) {
                others.add(before + behind.substring(1));
            }
        }
        return others;
    }

    /** "Tokens are longest ones". */
    private static void tokensAreLongestOnes() {
        gives("if(1<=1)1;if(1>=1)2;if(1==1)3;if(1!=2)4;if(1<-1)5;if(1>-1)6;x=-1;x", "1 2 3 4 6 -1");
        faulty("if(1< =1)1", "if(1> =1)1", "if(1= =1)1", "if(1! =2)1", "if(1=<1)1", "if(1=>1)1", "if(1=1)1",
            "if(1!1)1", "if(1===1)1", "if(1<==1)1", "if(1<>1)1", "if(1<<1)1", "if(1!==1)1", "x==1", "x= =1");
        faulty("<=", ">=", "==", "!=", "<==1", ">==1", "===1", "x<=1", "x>=1", "1+<=", "x=>=", "(==)");
        gives("define f(x){return1;return 2};f(0)", "1");
        faulty("define f(x){returnx}", "definef(x){}", "ifx", "x y", "xif(0<1)1", "1 2", "1 .5", "1. 5", "12 3.4");
    }

    /** "Blanks may stand between tokens". */
    private static void blanksBetweenTokens() {
        String loose = " define f ( x ) { return - x ^ 2 } ; if ( 1 <= 2 ) { y = f ( 3 ) ; y } ; scale = 1 ; 1 / 4 ";
        gives(loose, "-9 0.2");
        gives(loose.replace(" ", "   ").replace("define   f", "define f").trim(), "-9 0.2");
        gives(loose.replace(" ", "").replace("definef", "define f").replace("return-", "return -"), "-9 0.2");
        gives(" ", "");
        gives("    7", "7");
        gives("7    ", "7");
        gives(" ; ; \n ", "");
    }

    /** "A PROGRAM is any number of parts". */
    private static void programHasAnyNumberOfParts() {
        gives("", "");
        gives("1", "1");
        gives("x;".repeat(100), "0 ".repeat(100).trim());
        gives("{};".repeat(66), "");
        gives("define f(x){}", "");
    }

    /** "with one or more separators between each two (more of them may stand before, between and behind)". */
    private static void separatorsBetweenParts() {
        gives("1;2", "1 2");
        gives("1\n2", "1 2");
        gives("1;;2", "1 2");
        gives("1;\n;\n2", "1 2");
        gives(";1;2;", "1 2");
        gives("\n\n;1;;;2;;\n", "1 2");
        gives(";", "");
        gives("{1};{2};define f(x){};3", "1 2 3");
        faulty("1 2", "{1}{2}", "{1}2", "1{2}", "define f(x){}1", "define f(x){}define g(x){}", "1define f(x){}",
            "x=1y=2", "if(0<1)1 2", "if(0<1){1}2", "scale=1 2", "x x", "(1)(2)", "{}{}", "{1};2{3}");
    }

    /** "A LIST is the same of statements alone." */
    private static void listHasAnyNumberOfStatements() {
        gives("{}", "");
        gives("{;}", "");
        gives("{\n;\n}", "");
        gives("{1}", "1");
        gives("{;1}", "1");
        gives("{1;}", "1");
        gives("{;;1;\n;2;;}", "1 2");
        gives("{" + "x;".repeat(99) + "}", "0 ".repeat(99).trim());
        faulty("{1 2}", "{{1}{2}}", "{{1}2}", "{", "}", "{}}", "{{}", "{1", "1}", "{1;2", "{;", ";}", "}{");
    }

    /** "A part is a definition or a statement", while a list has no definitions. */
    private static void definitionsStandInTheProgramAlone() {
        sound("define f(x){1}", ";define f(x){};", "1;define f(x){};2");
        faulty("{define f(x){}}", "{1;define f(x){}}", "define f(x){define g(x){}}", "if(0<1)define f(x){}",
            "while(0<1)define f(x){}", "(define f(x){})", "x=define f(x){}");
        faulty("define", "define f", "define f(", "define f(x", "define f(x)", "define f(x){", "define f()",
            "define f(){}", "define (x){}", "define f x{}", "define f(x)x", "define f(x)\n{}", "define\nf(x){}",
            "define f(x y){}", "define f(x){}{}", "define f((x)){}", "define f(-x){}", "define f(1){}", "define 1(x){}",
            "define f(scale){}", "define scale(x){}", "define if(x){}", "define f(x);{}", "define f{}", "f(x){}");
    }

    /** "It makes the first name a function (no name twice in a text)". */
    private static void noNameTwiceInAText() {
        sound("define f(x){};define g(x){}", "define f(x){};define x(f){}", "define f(f){}");
        faulty("define f(x){};define f(x){}", "define f(x){};define f(y){1}", "define f(f){};define f(f){}",
            "define f(x){};define g(x){};define f(x){}", "define z(x){}\ndefine z(x){}");
        StringBuilder all = new StringBuilder();
        for (char name = 'a'; name < 'a' + 14; name++) {
            all.append("define ").append(name).append("(x){};");
        }
        sound(all.substring(0, 195), all + "n(1)", all.toString().replace("define n", "define z"));
        faulty(all.toString().replace("define n", "define a"), all.toString().replace("define a", "define n"));
        Session session = new Session();
        CHECK.same("a text defines f", session.go("define f(x){return 1};f(0)", 9), "2");
        CHECK.same("the same text again", session.go(9), "2");
        CHECK.same("another text defines f", session.go("define f(x){return 2};f(0)", 9), "2");
        CHECK.same("it is another f", session.out(), "2\n");
    }

    /** "return E (only within a definition)". */
    private static void returnOnlyWithinADefinition() {
        sound("define f(x){return 1}", "define f(x){{return 1}}", "define f(x){if(0<1)return 1}",
            "define f(x){1;return 1;2}", "define f(x){while(0<1){return 1}}");
        faulty("return 1", "{return 1}", "if(0<1)return 1", "while(0<1){return 1}", "define f(x){};return 1",
            "return 1;define f(x){}", "define f(x){return 1};{return 2}");
        faulty("define f(x){return}", "define f(x){return;}", "define f(x){return {1}}", "define f(x){return x=1}",
            "define f(x){return return 1}", "define f(x){return 1<2}", "define f(x){x=return 1}");
        Session session = new Session();
        session.go("define f(x){(", 9);
        CHECK.same("nor behind a text that ended in one", session.go("return 1", 9), Session.due(1));
    }

    /** "C: E and one of < > <= >= == != and E." */
    private static void conditionHasOneComparison() {
        for (String relation : new String[] {"<", ">", "<=", ">=", "==", "!="}) {
            sound("if(1" + relation + "2)3", "while(x+1" + relation + "-y)3");
            faulty("1" + relation + "2", "x=1" + relation + "2", "if(1" + relation + ")3", "if(" + relation + "2)3",
                "if(1" + relation + "2" + relation + "3)4", "if((1" + relation + "2))3", "f(1" + relation + "2)");
        }
        faulty("if(1)2", "if()2", "if 1<2 3", "if(1<2", "if(1<2)", "if(1<2);3", "if(1<2)\n3", "if1<2)3", "if(x=1)2",
            "while(1)2", "while()2", "while(1<2)", "while(1<2);", "while(1<2", "while 1<2 3", "if(1 2)3", "if(1+2)3");
    }

    /** "E: one or more T ... T: one or more U ... U: - U, or P ... P: A, or A ^ U". */
    private static void operationsHaveBothSides() {
        sound("1", "1+2", "1-2", "1*2", "1/2", "1%2", "1^2", "-1", "--1", "1--1", "1^-1", "-1^-1", "1*-1", "1+-1");
        for (String operator : new String[] {"+", "*", "/", "%", "^"}) {
            faulty(operator, operator + "1", "1" + operator, "1" + operator + operator + "2", "1" + operator + ";2",
                "(" + operator + "1)", "(1" + operator + ")", "-" + operator + "1", "x=" + operator + "1",
                "1" + operator + "\n2");
        }
        faulty("-", "1-", "-;", "(-)", "x=-", "()", "(", ")", "(1", "1)", "((1)", "1(2)", "(1)2", "2x", "x2", "1 x",
            "x=", "=1", "x=1=2", "1=x", "(x)=1", "-x=1", "x+y=1", "scale=", "scale=y=1", "x=scale=1", "scale scale");
    }

    /** "NAME ( E ), a CALL". */
    private static void callsHaveOneArgument() {
        sound("f(1)", "f(x+1)", "f((1))", "f(f(1))", "f (1)");
        faulty("f()", "f(1", "f1)", "f(1;2)", "f(1,2)", "f(1 2)", "f(1)(2)", "f(x=1)", "scale(1)", "1(1)", "f(1)=2",
            "f(1)f(2)", "f({1})", "f(return 1)");
    }

    /** "Operations of one kind go from left to right; -2 ^ 2 is -(2 ^ 2), 2 ^ 3 ^ 2 is 2 ^ (3 ^ 2)." */
    private static void operationsGoFromLeftToRight() {
        gives("9-4-3;9-4+3;9+4-3;64/8/4;64/8*4;7*3%4;7%4*3;100/7%4", "2 8 10 2 32 1 9 2");
        gives("-2^2;(-2)^2;2^3^2;(2^3)^2;-2^-0;2^-1^2;-3*2;-3+2;2*-3^2", "-4 4 512 64 -1 0 -6 -1 -18");
    }

    /** "deeper than 6 is a fault", with one kind of going deeper at a time. */
    private static void depthOfEachKind() {
        for (String around : AROUND_STATEMENTS) {
            sound(nested(around, 6, "x"), nested(around, 6, "x=1+2*3"));
            faulty(nested(around, 7, "x"));
        }
        for (String around : AROUND_EXPRESSIONS) {
            sound(nested(around, 6, "2"), nested(around, 6, "x"), nested(around, 6, "scale"));
            faulty(nested(around, 7, "2"), nested(around, 7, "x"), nested(around, 7, "scale"));
        }
        faulty("{{{{{{{}}}}}}}");
        gives("((((((7))))));------7;1^1^1^1^1^1^7;{{{{{{7}}}}}}", "7 7 1 7");
    }

    private static String nested(String around, int times, String inner) {
        String text = inner;
        for (int i = 0; i < times; i++) {
            text = around.replace("#", text);
        }
        return text;
    }

    /** The same with all kinds one in the other, in every order that the grammar allows. */
    private static void depthOfAllKindsMixed() {
        List<String> expressions = List.of("x");
        for (int inner = 0; inner <= 7; inner++) {
            List<String> statements = expressions;
            for (int outer = 0; inner + outer <= 7; outer++) {
                if (inner + outer == 6) {
                    sound(statements.toArray(new String[0]));
                }
                if (inner + outer == 7) {
                    faulty(statements.toArray(new String[0]));
                }
                statements = wrapped(statements, AROUND_STATEMENTS);
            }
            expressions = thinned(wrapped(expressions, AROUND_EXPRESSIONS));
        }
    }

    private static List<String> wrapped(List<String> texts, String[] around) {
        List<String> all = new ArrayList<>();
        for (String outer : around) {
            for (String text : texts) {
                all.add(outer.replace("#", text));
            }
        }
        return all;
    }

    /** Every text while they are few, else every so many-th; an odd stride meets all kinds at all levels. */
    private static List<String> thinned(List<String> texts) {
        List<String> some = new ArrayList<>();
        int stride = texts.size() / 300 | 1;
        for (int i = 0; i < texts.size(); i += stride) {
            some.add(texts.get(i));
        }
        return some;
    }

    /** The ( ) of a condition goes deeper, what stands beside operators or behind = does not. */
    private static void depthOfConditions() {
        for (String condition : CONDITIONS) {
            for (String around : AROUND_EXPRESSIONS) {
                sound(condition.replace("#", nested(around, 5, "x")));
                faulty(condition.replace("#", nested(around, 6, "x")));
            }
            sound(nested("{#}", 5, condition.replace("#", "x")));
            faulty(nested("{#}", 6, condition.replace("#", "x")));
        }
        for (String flat : WITHOUT_DEPTH) {
            sound(flat.replace("#", nested("(#)", 6, "x")), nested("{#}", 6, flat.replace("#", "x")));
            faulty(flat.replace("#", nested("(#)", 7, "x")), nested("{#}", 6, flat.replace("#", "(x)")));
        }
    }

    /** "within a ( ) (but for that of a define), a { }": the list of a definition is at depth 1. */
    private static void depthWithinADefinition() {
        for (String around : AROUND_STATEMENTS) {
            sound("define f(x){" + nested(around, 5, "return x") + "}");
            faulty("define f(x){" + nested(around, 6, "return x") + "}");
        }
        for (String around : AROUND_EXPRESSIONS) {
            sound("define f(x){return " + nested(around, 5, "x") + "}");
            faulty("define f(x){return " + nested(around, 6, "x") + "}");
        }
    }

    /** What is deep in one place does not make another place deeper. */
    private static void depthEndsWithItsKind() {
        for (String between : new String[] {"+", "-", "*", "/", "%", ";"}) {
            sound("((((((1))))))" + between + "((((((2))))))" + between + "------3" + between + "1^1^1^1^1^1^1");
        }
        sound("{{{{{{}}}}}};{{{{{{}}}}}}", "{{{{{{1};1};1};1};1};1};{{{{{{1}}}}}}",
            "define f(x){{{{{{1}}}}}};{{{{{{1}}}}}}",
            "if((((((0)))))<(((((1))))))x;if((((((0)))))<1)x", "if((((((0)))))<1){{{{{1}}}}}");
        faulty("((((((1))))))+(((((((2)))))))", "1;-------1", "{{{{{{}}}}}};{{{{{{{}}}}}}}");
    }

    /** "A text with any fault of these is FAULTY: it is not run at all." */
    private static void faultyTextIsNotRunAtAll() {
        for (String last : new String[] {"(", "ab", "!", "1234567890", "return 1", "(((((((1)))))))", "{", "1<2"}) {
            Session session = new Session();
            session.go("x=1;scale=1;x;x", 9);
            CHECK.same("faulty by " + last, session.go("x=2;scale=2;x;1/0;" + last, 9), Session.due(1));
            CHECK.same("faulty by " + last + ": x", session.variable('x'), "1e0");
            CHECK.same("faulty by " + last + ": scale", session.run.scale(), 1);
            CHECK.same("faulty by " + last + ": output", session.out(), "");
            CHECK.same("faulty by " + last + ": steps", session.run.steps(), 0);
        }
        faulty("if(1<0)(", "if(1<0)-------1", "define f(x){return 1;)}", "define f(x){1 2};3", "while(1<0)ab");
    }
}
