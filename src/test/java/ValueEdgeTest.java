/**
 * The limits of numbers, variables, the scale and the values of operations, in the order of the
 * document's "Terms". A test for each sentence, at the last input within the limit and at the first
 * beyond it.
 */
public final class ValueEdgeTest extends Cases {
    public static void main(String[] args) {
        numbersOfSums();
        numbersOfProducts();
        numbersOfQuotients();
        numbersOfRemainders();
        numbersOfPowers();
        numbersHaveUpToFourDecimals();
        decimalsDiffer();
        variablesAreZeroAtFirst();
        scaleIsZeroToFour();
        scaleIsZeroAtFirst();
        bothStayFromRunToRun();
        writingTheSign();
        writingTheWholePart();
        writingTheDecimals();
        comparedExactly();
        sumsHaveTheGreaterDecimals();
        productsKeepDecimals();
        productsAreCutTowardsZero();
        quotientsHaveTheScale();
        quotientsAreCutTowardsZero();
        remaindersAreExact();
        remaindersHaveTheGreaterDecimals();
        exponentsAreWhole();
        exponentsGoFromMinus99To99();
        powersBeginWithOne();
        powersGoFactorByFactor();
        negativePowersAreQuotients();
        minusKeepsDecimals();
        scaleHasNoDecimals();
        CHECK.end();
    }

    /** "A NUMBER is an int m from -999999999 to 999999999", else fault 3: of + and -. */
    private static void numbersOfSums() {
        gives("999999998+1;-999999998-1;999999999-1+1;-999999999+0", "999999999 -999999999 999999999 -999999999");
        fails("999999999+1", 3, "");
        fails("-999999999-1", 3, "");
        fails("-999999999+-1", 3, "");
        fails("999999999--1", 3, "");
        fails("999999999+999999999", 3, "");
        gives("99999.9998+0.0001;-99999.9998-0.0001", "99999.9999 -99999.9999");
        fails("99999.9999+0.0001", 3, "");
        fails("-99999.9999-0.0001", 3, "");
        gives("99999+0.0000;99999999+0.9;999999999+0", "99999.0000 99999999.9 999999999");
        fails("100000+0.0000", 3, "");
        fails("100000000+0.0", 3, "");
        fails("999999999+0.0", 3, "");
        fails("0.0000-999999999", 3, "");
    }

    /** The same of *. */
    private static void numbersOfProducts() {
        gives("333333333*3;-333333333*3;333333333*-3;27027027*37", "999999999 -999999999 -999999999 999999999");
        fails("500000000*2", 3, "");
        fails("-500000000*2", 3, "");
        fails("31623*31623", 3, "");
        fails("999999999*999999999", 3, "");
        fails("999999999*-999999999", 3, "");
        gives("49999.9999*2;99999*1.0000", "99999.9998 99999.0000");
        fails("50000.0000*2", 3, "");
        fails("100000*1.0000", 3, "");
        gives("9999.9999*9.9999;-9999.9999*9.9999", "99998.9990 -99998.9990");
        fails("99999.9999*1.0001", 3, "");
    }

    /** The same of /. */
    private static void numbersOfQuotients() {
        gives("99999.9999/0.0001;-99999.9999/0.0001;99999999.9/0.1", "999999999 -999999999 999999999");
        fails("100000/0.0001", 3, "");
        fails("100000/-0.0001", 3, "");
        fails("100000000/0.1", 3, "");
        fails("999999999/0.0001", 3, "");
        gives("scale=4;99999/1;-99999/1;99999.9999/1", "99999.0000 -99999.0000 99999.9999");
        fails("scale=4;100000/1", 3, "");
        fails("scale=4;-100000/1", 3, "");
        gives("scale=1;99999999/1;9999.9999/0.0001", "99999999.0 99999999.0");
        gives("scale=2;999.9999/0.0001;scale=3;99.9999/0.0001;scale=4;9.9999/0.0001",
            "9999999.00 999999.000 99999.0000");
        fails("scale=4;10/0.0001", 3, "");
        fails("scale=1;100000000/1", 3, "");
    }

    /** The same of %, whose quotient is no value by itself. */
    private static void numbersOfRemainders() {
        gives("999999999%0.0001;-999999999%0.0001;999999999%-0.0002", "0.0000 0.0000 0.0000");
        gives("999999999%99999.9999;999999998%999999999;-999999999%999999999", "0.0000 999999998 0");
    }

    /** "also one between the factors of ^". */
    private static void numbersOfPowers() {
        gives("999999999^1;31622^2;999^3;(-999)^3;10^8;2^29",
            "999999999 999950884 997002999 -997002999 100000000 536870912");
        fails("31623^2", 3, "");
        fails("1000^3", 3, "");
        fails("(-1000)^3", 3, "");
        fails("10^9", 3, "");
        fails("2^30", 3, "");
        fails("999999999^2", 3, "");
        gives("2^-29;10^-8;31622^-2", "0 0 0");
        fails("2^-30", 3, "");
        fails("10^-9", 3, "");
        gives("9.9999^5", "99995.0000");
        fails("10.0000^5", 3, "");
    }

    /** "with 0 .. 4 DECIMALS d". */
    private static void numbersHaveUpToFourDecimals() {
        Session session = gives("a=1;b=1.1;c=1.11;d=1.111;e=1.1111", "");
        for (int c = 0; c <= 4; c++) {
            CHECK.same("decimals " + c, session.run.decimals(c), c);
        }
        faulty("x=1.11111");
        gives("scale=4;1.2345*1.2345;1.2345*1.23;1.2345^3;1/3;1.2345%0.0002", "1.5239 1.5184 1.8812 0.3333 0.0001");
        gives("1.2345*1.2345;0.0001*0.0001;1.2345+0.1;1.2345-1", "1.5239 0.0000 1.3345 0.2345");
    }

    /** "(2 and 2.0 differ in their decimals)". */
    private static void decimalsDiffer() {
        Session session = gives("a=2;b=2.0;c=2.0000;a;b;c", "2 2.0 2.0000");
        CHECK.same("2", session.variable('a'), "2e0");
        CHECK.same("2.0", session.variable('b'), "20e1");
        CHECK.same("2.0000", session.variable('c'), "20000e4");
    }

    /** "VARIABLES are a .. z, 0 without decimals at first". */
    private static void variablesAreZeroAtFirst() {
        for (char name = 'a'; name <= 'z'; name++) {
            Session session = gives(String.valueOf(name), "0");
            CHECK.same(name + " at first", session.variable(name), "0e0");
            session.go(name + "=1.5", 9);
            for (char other = 'a'; other <= 'z'; other++) {
                CHECK.same(other + " beside " + name, session.variable(other), other == name ? "15e1" : "0e0");
            }
        }
    }

    /** "the SCALE is 0 .. 4", else fault 5 and it stays; "(it may have decimals of 0)". */
    private static void scaleIsZeroToFour() {
        String[] within = {"0", "0.0", "-0", "1-1", "1", "2", "3.00", "4", "4.0", "4.0000", "2+2"};
        int[] due = {0, 0, 0, 0, 1, 2, 3, 4, 4, 4, 4};
        for (int i = 0; i < within.length; i++) {
            CHECK.same("scale=" + within[i], gives("scale=2;scale=" + within[i], "").run.scale(), due[i]);
        }
        for (String value : new String[] {"-1", "5", "-0.0001", "4.0001", "0.5", "3.9999", "-1.0", "5.0", "10", "40",
            "999999999", "-999999999", "0.0004", "2.5"}) {
            CHECK.same("scale=" + value, fails("scale=2;scale=" + value + ";1", 5, "").run.scale(), 2);
        }
    }

    /** "0 at first". */
    private static void scaleIsZeroAtFirst() {
        CHECK.same("scale at first", gives("scale;7/2", "0 3").run.scale(), 0);
    }

    /** "Both stay from run to run." */
    private static void bothStayFromRunToRun() {
        Session session = new Session();
        session.go("scale=3;a=-0.5;z=7", 9);
        session.go("", 9);
        session.go("b=1/0", 9);
        session.go("b=(", 9);
        session.go("b=1", 0);
        CHECK.same("the scale stays", session.run.scale(), 3);
        CHECK.same("a stays", session.variable('a'), "-5e1");
        CHECK.same("z stays", session.variable('z'), "7e0");
        CHECK.same("they run on", session.go("z/a;a=a+z;scale=scale-1;1/3", 9), "4");
        CHECK.same("their output", session.out(), "-14.000\n0.33\n");
        CHECK.same("a goes on", session.variable('a'), "65e1");
    }

    /** "a - if it is negative". */
    private static void writingTheSign() {
        gives("-1;0;-0;1;-0.0001;0.0000;-0.0000;0.0001", "-1 0 0 1 -0.0001 0.0000 0.0000 0.0001");
        gives("-999999999;999999999;-0.1*0.1;-1/2;-3%3;0*-5", "-999999999 999999999 0.0 0 0 0");
    }

    /** "the whole part's digits (at least one)". */
    private static void writingTheWholePart() {
        for (int digits = 1; digits <= 9; digits++) {
            String least = "1" + "0".repeat(digits - 1);
            String most = "9".repeat(digits);
            gives(least + ";" + most + ";-" + least + ";-" + most, least + " " + most + " -" + least + " -" + most);
        }
        gives("0.9;9.9;10.0;0.0009;-0.5;00.5;007", "0.9 9.9 10.0 0.0009 -0.5 0.5 7");
        gives("99999.9999;-99999.9999;10000.0001;9999.9999", "99999.9999 -99999.9999 10000.0001 9999.9999");
    }

    /** "and if it has decimals a . and all of them". */
    private static void writingTheDecimals() {
        gives("5;5.0;5.00;5.000;5.0000;5.0100;0.0010", "5 5.0 5.00 5.000 5.0000 5.0100 0.0010");
        gives("1.5-0.5;0.25*4;10.00", "1.0 1.00 10.00");
    }

    /** "All values are compared exactly." */
    private static void comparedExactly() {
        holds("99999.9998", "99999.9999", -1);
        holds("99999.9999", "100000", -1);
        holds("999999998", "999999999", -1);
        holds("-999999999", "999999999", -1);
        holds("-0.0001", "0", -1);
        holds("0", "0.0001", -1);
        holds("0.3333", "1/3+0.3334", -1);
        holds("-0.1", "-0.01", -1);
        holds("9", "10", -1);
        holds("0.9999", "1", -1);
        holds("2", "2.0", 0);
        holds("2.00", "2.0000", 0);
        holds("-0", "0.0000", 0);
        holds("999999999", "999999999", 0);
        holds("-99999.9999", "-99999.9999", 0);
        holds("100000", "99999.9999+0", 1);
        holds("0.01", "0.009", 1);
        holds("-999999998", "-999999999", 1);
    }

    private static void holds(String left, String right, int order) {
        String[] relations = {"<", ">", "<=", ">=", "==", "!="};
        boolean[] due = {order < 0, order > 0, order <= 0, order >= 0, order == 0, order != 0};
        for (int i = 0; i < relations.length; i++) {
            gives("if(" + left + relations[i] + right + ")7", due[i] ? "7" : "");
        }
    }

    /** "+ and - are exact, with the greater of s and t." */
    private static void sumsHaveTheGreaterDecimals() {
        for (int s = 0; s <= 4; s++) {
            for (int t = 0; t <= 4; t++) {
                String a = numeral("2", s);
                String b = numeral("1", t);
                int greater = Math.max(s, t);
                gives(a + "+" + b + ";" + a + "-" + b, numeral("3", greater) + " " + numeral("1", greater));
            }
        }
        gives("0.0001+0.1;0.1-0.0001;1-0.0001;scale=1;0.05+0.05", "0.1001 0.0999 0.9999 0.10");
    }

    private static String numeral(String whole, int decimals) {
        return decimals == 0 ? whole : whole + "." + "0".repeat(decimals);
    }

    /** "cut ... to the least of s + t and the greatest of s, t and the scale". */
    private static void productsKeepDecimals() {
        for (int s = 0; s <= 4; s++) {
            for (int t = 0; t <= 4; t++) {
                for (int scale = 0; scale <= 4; scale++) {
                    int kept = Math.min(s + t, Math.max(scale, Math.max(s, t)));
                    gives("scale=" + scale + ";" + numeral("3", s) + "*" + numeral("2", t), numeral("6", kept));
                }
            }
        }
    }

    /** "cut (towards 0)" of *. */
    private static void productsAreCutTowardsZero() {
        gives("0.9*0.9;-0.9*0.9;0.9*-0.9;-0.9*-0.9", "0.8 -0.8 -0.8 0.8");
        gives("0.1*0.9;-0.1*0.9;0.3*0.3;0.4*0.5;0.5*0.1", "0.0 0.0 0.0 0.2 0.0");
        gives("scale=4;0.0001*0.9999;-0.0001*0.9999;1.9999*1.9999;-1.9999*1.9999", "0.0000 0.0000 3.9996 -3.9996");
        gives("scale=2;0.19*0.1;0.11*0.91;-0.11*0.91", "0.01 0.10 -0.10");
    }

    /** "/ is the quotient ... to as many decimals as the scale is." */
    private static void quotientsHaveTheScale() {
        for (int scale = 0; scale <= 4; scale++) {
            for (int t = 0; t <= 4; t++) {
                gives("scale=" + scale + ";6/" + numeral("2", t) + ";" + numeral("6", t) + "/2;0/" + numeral("2", t),
                    numeral("3", scale) + " " + numeral("3", scale) + " " + numeral("0", scale));
            }
        }
    }

    /** "cut towards 0" of /. */
    private static void quotientsAreCutTowardsZero() {
        gives("1/2;-1/2;1/-2;-1/-2;5/3;-5/3;5/-3;-5/-3;6/3;-6/3", "0 0 0 0 1 -1 -1 1 2 -2");
        gives("scale=4;2/3;-2/3;1/99999;-1/99999;1/10000;1/10001;0.0001/2;-0.0001/2",
            "0.6666 -0.6666 0.0000 0.0000 0.0001 0.0000 0.0000 0.0000");
        gives("scale=1;1.9999/1;-1.9999/1;0.19/1;0.09/1", "1.9 -1.9 0.1 0.0");
    }

    /** "% is a less b times the whole part (cut towards 0) of a / b, exact". */
    private static void remaindersAreExact() {
        gives("4%5;5%5;6%5;-4%5;-5%5;-6%5;4%-5;5%-5;6%-5;-6%-5;0%5", "4 0 1 -4 0 -1 4 0 1 -1 0");
        gives("1%0.3;-1%0.3;0.9%0.3;0.8999%0.3;0.0001%0.0002;0.5%0.03", "0.1 -0.1 0.0 0.2999 0.0001 0.02");
        gives("scale=4;1%0.3;7%2;-7%2;scale=1;1.2345%1", "0.1 1 -1 0.2345");
    }

    /** "with the greater of s and t" of %. */
    private static void remaindersHaveTheGreaterDecimals() {
        for (int s = 0; s <= 4; s++) {
            for (int t = 0; t <= 4; t++) {
                gives(numeral("7", s) + "%" + numeral("4", t), numeral("3", Math.max(s, t)));
            }
        }
    }

    /** "b's value must be whole", else fault 5; decimals of 0 are. */
    private static void exponentsAreWhole() {
        gives("2^3;2^3.0;2^3.0000;2^-0.00;2^(1.5+1.5);1^99.0000", "8 8 8 1 8 1");
        String[] broken = {"0.5", "0.0001", "-0.0001", "2.9999", "3.0001", "98.9999", "-1.5", "0.9"};
        for (String exponent : broken) {
            fails("1^" + exponent, 5, "");
            fails("0^" + exponent, 5, "");
        }
    }

    /** "n from -99 to 99", else fault 5. */
    private static void exponentsGoFromMinus99To99() {
        gives("1^99;1^-99;(-1)^99;(-1)^-99;(-1)^98;0^99;1^99.0;1^-99.0", "1 1 -1 -1 1 0 1 1");
        for (String exponent : new String[] {"100", "-100", "100.0", "-100.0", "99.0001", "-99.0001", "99999.9999",
            "999999999", "-999999999"}) {
            fails("1^" + exponent, 5, "");
            fails("0^" + exponent, 5, "");
            fails("10^" + exponent, 5, "");
        }
    }

    /** "for n >= 0 it is 1 without decimals". */
    private static void powersBeginWithOne() {
        gives("0^0;5^0;1.5^0;0.0^0;(-7)^0;5^0.0;scale=4;1.5^0;0.0001^0;3^1;0.5^1;3.00^1", "1 1 1 1 1 1 1 1 3 0.5 3.00");
    }

    /** "multiplied by a n times, one after the other, as * does". */
    private static void powersGoFactorByFactor() {
        gives("1.5^2;1.5^3;1.5^4;0.5^2;0.5^3;1.1^9", "2.2 3.3 4.9 0.2 0.1 1.9");
        gives("scale=2;1.5^2;1.5^3;1.5^4;0.5^3;1.1^9", "2.25 3.37 5.05 0.12 2.33");
        gives("scale=4;0.5^13;0.5^14;0.1^4;0.1^5;1.0001^2", "0.0001 0.0000 0.0001 0.0000 1.0002");
        gives("0^1;0.0^2;(-2)^2;(-2)^3;(-0.5)^3", "0 0.0 4 -8 -0.1");
    }

    /** "else 1 divided, as / does, by a ^ -n." */
    private static void negativePowersAreQuotients() {
        gives("1^-1;2^-1;0.5^-1;(-1)^-1;0.1^-1", "1 0 2 -1 10");
        gives("scale=4;2^-1;2^-4;3^-1;(-3)^-1;10^-4;10^-5;0.1^-4;1.5^-2",
            "0.5000 0.0625 0.3333 -0.3333 0.0001 0.0000 10000.0000 0.4444");
        fails("0^-1", 2, "");
        fails("0.0^-99", 2, "");
        gives("0.5^-2;0.5^-3", "5 10");
        fails("0.5^-4", 2, "");
        fails("scale=4;0.1^-5", 2, "");
    }

    /** "- keeps the decimals." */
    private static void minusKeepsDecimals() {
        gives("-1;-1.0;-1.0000;--1.50;-0.00;-(-2.5)", "-1 -1.0 -1.0000 1.50 0.00 2.5");
        gives("-999999999;--999999999;-99999.9999", "-999999999 999999999 -99999.9999");
        CHECK.same("x=-0.0", gives("x=-0.0", "").variable('x'), "0e1");
    }

    /** "scale is worth its value, without decimals." */
    private static void scaleHasNoDecimals() {
        gives("scale;scale=4.00;scale;-scale;scale+0.5;scale*2;scale^2;scale%3;scale=0;scale", "0 4 -4 4.5 8 16 1 0");
    }
}
