/** What a text means: tokens, grammar, depth, values, steps and the faults (promise 6). */
public final class LanguageTest extends Cases {
    public static void main(String[] args) {
        tokens();
        grammar();
        depth();
        writing();
        sums();
        products();
        quotients();
        remainders();
        powers();
        comparisons();
        scales();
        steps();
        calls();
        callsWithin();
        faultOrder();
        faultsLeaveThingsAsTheyAre();
        outputLimit();
        fullTexts();
        CHECK.end();
    }

    private static void tokens() {
        gives("1.2345;00001.5;123456789;12345.6789;0.0", "1.2345 1.5 123456789 12345.6789 0.0");
        gives("  1  +  2 ; x = 3 ;x  ", "3 3");
        gives("define f(x){return1};f(0)", "1");
        faulty("1234567890", "123456789.1", "12345678.12", "12345.67891", "1.23456", "1.", ".5", "1..2",
            "1.2.3", "1 .5", "1. 5", "1 2");
        faulty("ab", "iff", "define2", "scales", "ifx", "retur", "whil", "A", "a1", "1a", "aa=1", "If",
            "xf(1<2)3", "xhile(1>2)3", "xefine f(x){}", "xcale", "scalx=1", "define f(x){xeturn 1}");
        faulty("!", "1!2", "&", "\t", "1\r", "_", "\"", "#", "\u00ff", "\u0080", "[1]", "1,2", "$", "~",
            "`", "@", "|", ":", "?", "'", "\\", "\u0001", "\u001f", "\u007f", "\u00a0");
        faulty("if(1< =2)3", "if(1! =2)3", "if(1<>2)3", "if(1=<2)3", "if(1===1)3", "if(1<==1)3");
        gives("if(1<=1)1;if(1>=1)2;if(1==1)3;if(1!=2)4;if(1<-1)5;if(1>-1)6", "1 2 3 4 6");
        gives("x=-1;x", "-1");
        faulty("x==-1", "x=!1", "x= =1");
    }

    private static void grammar() {
        gives("", "");
        gives(" ", "");
        gives(";;\n;", "");
        gives("\n1\n;\n2;;3\n", "1 2 3");
        gives("{};{;};{1;2};{3\n};{{4};5}", "1 2 3 4 5");
        faulty("{1}2", "{1}{2}", "define f(x){}1", "if(1<2){1}2", "1 x=2", "x=1 y=2", "{1;2", "1}", "{1;",
            "{", "}", "(", ")", "()", "{}}");
        faulty("+1", "1+", "1-", "*1", "1*", "1*/2", "1^", "^1", "-", "1+*2", "2(3)", "(1)(2)", "(1)2", "1(",
            "-;", "2^;", "1++2");
        faulty("x=", "=1", "1=2", "x=y=1", "(x)=1", "x+1=2", "-x=1", "x=(y=1)", "scale=", "scale=x=1", "x(1)=2",
            "1<2", "x==1", "scale==1", "scale(1)", "if=1", "x=1<2");
        faulty("if", "if(1)2", "if 1<2 3", "if(1<2)", "if(1<2);", "if(1<2);3", "if(1<2)\n3", "if((1<2))3",
            "if(1<2<3)4", "if(1<)2", "if(<1)2", "if()1", "if(x=1)2", "while", "while(1)2", "while(1<2)",
            "while(1>2);", "if(1<2)define f(x){}", "if(1\n<2)3", "if(1<2 3", "1+\n2", "x=\n1", "(1\n)");
        faulty("return 1", "return", "{return 1}", "if(1<2)return 1", "define f(x){};return 1",
            "define f(x){return}", "define f(x){return;}", "define f(x){return x=1}", "define f(x){return {}}");
        faulty("define", "define f", "define f(x)", "define f(x){", "define f(x)1", "define f(){}", "define f(1){}",
            "define f(x;y){}", "define f x{}", "define 1(x){}", "define if(x){}", "define f(scale){}",
            "define scale(x){}", "define f(x)\n{}", "define f((x)){}", "{define f(x){}}",
            "define f(x){define g(x){}}", "define f(x){};define f(y){}", "f(x){}", "define f(x)({})");
        gives("define f(x){};define g(x){};f(1)", "0");
        gives("f(1);define f(f){return f+1};f", "2 0");
        faulty("f()", "f(1,2)", "f(1", "f(1;2)", "f(x=1)", "f(1)(2)");
        gives("1+2*3;1-2-3;8/4/2;2*3%4;7-2*3^2;-2^2;2^3^2;(-2)^2;2^-0;--2;1--2;1- -2;-2*-3;2*-3+1",
            "7 -4 1 2 -11 -4 512 4 1 2 3 3 6 -5");
        gives("scale;scale+1;-scale", "0 1 0");
    }

    private static void depth() {
        gives("((((((1))))));------1;1^1^1^1^1^1^1;{{{{{{1}}}}}}", "1 1 1 1");
        faulty("(((((((1)))))))", "-------1", "1^1^1^1^1^1^1^1", "{{{{{{{1}}}}}}}", "{{{{{{{}}}}}}}");
        String ifs = "if(0<1)";
        gives(ifs.repeat(6) + "1", "1");
        faulty(ifs.repeat(7) + "1", ifs.repeat(6) + "{1}", ifs.repeat(6) + "-1", ifs.repeat(6) + "(1)");
        gives(ifs.repeat(4) + "if((0)<1)2", "2");
        faulty(ifs.repeat(4) + "if(((0))<1)2", ifs.repeat(5) + "if((0)<1)2");
        gives(ifs.repeat(5) + "if(0<1)2", "2");
        faulty("{{{{{{if(0<1)2}}}}}}", "{{{{{{-1}}}}}}", "{{{{{{f(1)}}}}}}", "{{{{{{2^2}}}}}}");
        gives("{{{{{{1+2*3-x}}}}}}", "7");
        gives("define f(x){{{{{{return x}}}}}};f(3)", "3");
        faulty("define f(x){{{{{{{return x}}}}}}}", "define f(x){return((((((x))))))}");
        gives("define f(x){return(((((x)))))};f(3)", "3");
        gives("define f(x){return x+1};f(f(f(f(f(f(0))))))", "6");
        faulty("define f(x){return x+1};f(f(f(f(f(f(f(0)))))))");
        gives("2^-(((( 0))))", "1");
        faulty("2^-(((((0)))))");
        gives("(1)+(1)+(1)+(1)+(1)+(1)+(1)+(1)", "8");
        faulty("if(1>2)(((((((1)))))))", "define f(x){-------1}");
    }

    private static void writing() {
        gives("0;0.00;5;-5;0.5;-0.5;-0.0001;10.10;-12.034;100;999999999;-999999999;99999.9999",
            "0 0.00 5 -5 0.5 -0.5 -0.0001 10.10 -12.034 100 999999999 -999999999 99999.9999");
        gives("-0;-0.0", "0 0.0");
        gives("10;100000000;1.0;0.01;1000.0001", "10 100000000 1.0 0.01 1000.0001");
    }

    private static void sums() {
        gives("1.5+2.25;1.5-2.25;1+0.00;0.5+0.5;2.0-2;0.1+0.02+0.003+0.0004", "3.75 -0.75 1.00 1.0 0.0 0.1234");
        gives("999999998+1;-999999998-1;99999.9998+0.0001", "999999999 -999999999 99999.9999");
        fails("999999999+1", 3, "");
        fails("-999999999-1", 3, "");
        fails("999999999+0.0", 3, "");
        fails("99999999.9+0.01", 3, "");
        fails("999999999+1-1", 3, "");
        gives("999999999-1+1", "999999999");
    }

    private static void products() {
        gives("1.5*1.5;1.25*0.5;2*3;0.5*2;-1.5*1.5;0.1*0.1;-0.1*0.1", "2.2 0.62 6 1.0 -2.2 0.0 0.0");
        gives("scale=4;1.5*1.5;1.25*0.5;2*3;0.0001*0.1;1.2345*1.2345", "2.25 0.625 6 0.0000 1.5239");
        gives("scale=1;1.25*1.25;1.5*1.5;1.15*1.1", "1.56 2.2 1.26");
        gives("scale=3;1.25*1.25;1.255*1.2", "1.562 1.506");
        gives("31622*31622;99999.9999*0.0001", "999950884 9.9999");
        fails("31623*31623", 3, "");
        fails("999999999*999999999", 3, "");
        fails("-31623*31623", 3, "");
        gives("999999999*-1", "-999999999");
        fails("12345.6789*100.0", 3, "");
    }

    private static void quotients() {
        gives("7/2;-7/2;7/-2;-7/-2;1/3;7.5/2.5;0/5", "3 -3 -3 3 0 3 0");
        gives("scale=2;7/2;-7/2;1/3;-2/3;1/0.03;0.01/3;-0.01/3;1.0000/8", "3.50 -3.50 0.33 -0.66 33.33 0.00 0.00 0.12");
        gives("scale=4;1/0.0001;0.0001/1;1/16;99999/1;0.0001/99999;2/3",
            "10000.0000 0.0001 0.0625 99999.0000 0.0000 0.6666");
        fails("scale=4;100000/1", 3, "");
        fails("999999999/0.1", 3, "");
        gives("99999999/0.1;99999.9999/0.0001", "999999990 999999999");
        fails("1/0", 2, "");
        fails("0/0.00", 2, "");
        fails("1/(2-2.0)", 2, "");
    }

    private static void remainders() {
        gives("7%3;-7%3;7%-3;-7%-3;6%3;0%5", "1 -1 1 -1 0 0");
        gives("7.5%2;7%2.50;-7.5%2;0.5%0.03;1%0.3;2%5.00", "1.5 2.00 -1.5 0.02 0.1 2.00");
        gives("scale=3;7%3;7.5%2;1%0.3", "1 1.5 0.1");
        gives("999999999%0.0001;-999999999%0.7;999999999%99999.9999", "0.0000 -0.1 0.0000");
        fails("1%0", 2, "");
        fails("1.5%0.0", 2, "");
    }

    private static void powers() {
        gives("2^10;0^0;5^0;1.5^0;1.5^1;1.5^2;1.5^3;10^8;1^99;0^99;-1^99", "1024 1 1 1 1.5 2.2 3.3 100000000 1 0 -1");
        gives("scale=4;1.5^2;1.5^3;1.5^4;1.1^5", "2.25 3.375 5.0625 1.6105");
        gives("scale=2;5^0;1.5^0;5^1;0.5^1", "1 1 5 0.5");
        gives("2^3.00;2^-1;2^-1.0;(-2)^3;1^-99", "8 0 0 -8 1");
        gives("scale=3;2^-1;2^-3;0.5^-2;(-3)^-1;10^-3", "0.500 0.125 4.000 -0.333 0.001");
        gives("0.5^-1;scale=2;0.1^-2;1.5^-1", "2 100.00 0.66");
        fails("2^0.5", 5, "");
        fails("2^100", 5, "");
        fails("2^-100", 5, "");
        fails("1^99.1", 5, "");
        fails("0^100", 5, "");
        fails("0^-1", 2, "");
        fails("0.1^-2", 2, "");
        fails("10^9", 3, "");
        fails("10^-9", 3, "");
        fails("0.01^-3", 2, "");
        fails("(-10)^99", 3, "");
        gives("scale=4;0.5^14", "0.0000");
        gives("31622^2;999999999^1;999^3", "999950884 999999999 997002999");
        fails("1000^3", 3, "");
    }

    private static void comparisons() {
        gives("if(2==2.0)1;if(2!=2.0)2;if(2<=2.00)3;if(2>=2.0000)4;if(2<2.0)5;if(2>2.0)6", "1 3 4");
        gives("if(-1<0.0001)1;if(0.1>0.0999)2;if(0.3333!=0.333)3;if(-0.1<-0.01)4;if(-0==0)5", "1 2 3 4 5");
        gives("if(999999999>99999.9999)1;if(-999999999<-99999.9999)2;if(1<2)3;if(2<1)4;if(1>2)5", "1 2 3");
        gives("if(2<=1)1;if(1<=2)2;if(1<=1)3;if(1>=2)4;if(2>=1)5;if(1>=1)6;if(1==2)7;if(2==1)8;if(1!=1)9", "2 3 5 6");
        gives("if(1<1)1;if(1>1)2;if(2>1)3;if(1!=2)4;if(2!=1)5;if(1<1.0001)6;if(1>0.9999)7", "3 4 5 6 7");
        gives("x=3;while(x>0){x;x=x-1};while(x>0)9", "3 2 1");
        fails("if(1/0<1)2", 2, "");
        fails("if(1/0<f(1))2", 2, "");
        fails("if(f(1)<1/0)2", 6, "");
    }

    private static void scales() {
        gives("scale=0;scale=4;scale;scale=2.00;scale;scale=0.0;scale;scale=scale+1;scale", "4 2 0 1");
        CHECK.same("scale 5", fails("scale=3;scale=5", 5, "").run.scale(), 3);
        fails("scale=-1", 5, "");
        fails("scale=1.5", 5, "");
        fails("scale=0.0001", 5, "");
        fails("scale=4.0001", 5, "");
        fails("scale=999999999", 5, "");
        gives("define f(x){scale=2;return x};1/f(3);x=1/3;x", "0.33 0.33");
    }

    private static void steps() {
        makes("", 0);
        makes("1", 1);
        makes("{1;{2;3}}", 3);
        makes("if(1>2)3", 1);
        makes("if(1<2)3", 2);
        makes("if(1<2){}", 1);
        makes("if(1<2)if(1<2){3;4}", 4);
        makes("while(1>2)3", 1);
        makes("while(x<3)x=x+1", 7);
        makes("while(x<3){x=x+1}", 7);
        makes("while(x<3){x=x+1;{}}", 7);
        makes("define f(x){return x};1", 1);
        makes("define f(x){return x};f(1)+f(2)", 3);
        makes("define f(x){};f(1)+f(2)", 1);
        makes("define f(x){{x=1;y=2};return y;z=3};f(1)", 4);
        makes("define f(x){while(0<1)return x};f(1)", 3);
        Session session = new Session();
        CHECK.same("an empty loop", session.go("while(0<1){}", 5), Session.due(4));
        CHECK.same("an empty loop's steps", session.run.steps(), 5);
        CHECK.same("a step before its faults", session.go("1/0", 0), Session.due(4));
        CHECK.same("a look is behind its step", session.go("x=2;while(1/x<1)x=x-1", 3), Session.due(4));
        CHECK.same("x", session.variable('x'), "1e0");
        CHECK.same("with one more it looks", session.go(4), "4");
        CHECK.same("fuel is no fault 2", session.go("x=2;while(0<1/x+1)x=x-1", 9), Session.due(2));
        CHECK.same("steps up to it", session.run.steps(), 6);
    }

    private static void calls() {
        gives("define f(n){if(n<2)return 1;return n*f(n-1)};f(1);f(2);f(3);f(4);n", "1 2 6 24 0");
        gives("define f(x){x=x+1;return x};x=5;f(1);x;f(x);x", "2 5 6 5");
        gives("define f(x){y=x};f(3);y;x=f(4.5);x;y", "0 3 0 4.5");
        gives("define f(x){1;return 2;3};f(0)", "1 2");
        gives("define f(x){while(0<1){x=x-1;if(x<3){return x*10}}};f(9)", "20");
        gives("define f(x){return 1.50};f(1);-f(1);f(1)*2", "1.50 -1.50 3.00");
        gives("define f(x){y=y+1;return y};y-f(0);y+f(0);f(0)*10+f(0);f(0)^f(0)", "-1 3 34 15625");
        gives("x=1;define f(y){x=x+1;return y};x+f(0)+x;if(x==f(0)+x-1)7", "3 7");
        gives("define f(x){return g(x)+1};define g(x){return x*2};x=9;f(3);x", "7 9");
        gives("define f(x){return x};f(f(f(2)))+f(3)*f(4)", "14");
        gives("if(1>2)f(1);3", "3");
        fails("3;f(1)", 6, "3");
        fails("x=1;x(1)", 6, "");
        gives("define f(x){y=x;x=0;return y+x};f(4)", "4");
        gives("define g(y){x=7;return y};define f(x){return x};x=1;f(g(2));x", "2 7");
        gives("define f(x){f=x;return f};f(3);f", "3 3");
        gives("define f(x){return x;return x+1};f(1)+0.0", "1.0");
    }

    private static void callsWithin() {
        String f = "define f(n){if(n<2)return 1;return n*f(n-1)};";
        CHECK.same("n stays", fails(f + "f(4);f(5)", 7, "24").variable('n'), "2e0");
        gives("define f(x){return x};f(f(f(f(f(f(1))))))", "1");
        String chain = "define a(x){return b(x)};define b(x){return c(x)};define c(x){return d(x)};"
            + "define d(x){return x};";
        gives(chain + "a(1);a(a(2));d(d(d(d(d(3)))))", "1 2 3");
        fails(chain + "define e(x){return a(x)};e(1)", 7, "");
        fails("define f(x){f(x)};f(1)", 7, "");
        fails("define f(x){while(f(x)<1)1};f(1)", 7, "");
        fails(chain.replace("d(x){return x}", "d(x){return e(x)}") + "a(1)", 6, "");
        fails(chain.replace("d(x){return x}", "d(x){return a(1/0)}") + "a(1)", 2, "");
        fails(chain.replace("d(x){return x}", "d(x){return a(e(x))}") + "a(1)", 6, "");
        gives("define f(x){if(x<4)f(x+1)};f(1);f(1)", "0 0 0 0 0 0 0 0");
    }

    private static void faultOrder() {
        fails("f(1/0)", 2, "");
        fails("f(999999999+1)", 3, "");
        fails("f(g(1)/0)", 6, "");
        fails("(1/0)^0.5", 2, "");
        fails("2^(1/0)", 2, "");
        fails("1/0+999999999*9", 2, "");
        fails("999999999*9+1/0", 3, "");
        fails("1+999999999*9/0", 3, "");
        fails("(999999999+1)/0", 3, "");
        fails("1/(0*f(1))", 6, "");
        fails("f(1)/0", 6, "");
        fails("10^99.5", 5, "");
        fails("scale=1/0", 2, "");
        fails("scale=f(1)", 6, "");
        fails("1;(", 1, "");
        fails("1/0;(", 1, "");
        fails("define f(y){y;return 0};f(1)/f(2)", 2, "1 2");
    }

    private static void faultsLeaveThingsAsTheyAre() {
        Session session = fails("x=1;scale=2;x;x=x/0;x=3", 2, "1");
        CHECK.same("x", session.variable('x'), "1e0");
        CHECK.same("scale", session.run.scale(), 2);
        session = fails("define f(x){x=x+1;y=x/0};x=5;f(7)", 2, "");
        CHECK.same("the parameter stays", session.variable('x'), "8e0");
        CHECK.same("y", session.variable('y'), "0e0");
        String whole = session.go("define f(n){if(n<2)return 1;return n*f(n-1)};f(4);x", 99);
        CHECK.same("the next run is whole", whole, "10");
        CHECK.same("its output", session.out(), "24\n8\n");
        session = fails("define f(y){return g(y+1)};define g(z){return h(z+1)};f(1)", 6, "");
        CHECK.same("y is the argument", session.variable('y'), "1e0");
        CHECK.same("z is the argument", session.variable('z'), "2e0");
    }

    private static void outputLimit() {
        Session session = new Session();
        CHECK.same("300 fit", session.go("while(x<30){x=x+1;123456789}", 2000), "91");
        CHECK.same("300", session.run.outLength(), 300);
        CHECK.same("out(299)", session.run.out(299), 10);
        CHECK.same("out(300)", session.run.out(300), -1);
        session.run.reset();
        CHECK.same("301 do not", session.go("while(x<29){x=x+1;123456789};-123456789;7", 2000), Session.due(8));
        CHECK.same("fault 8", session.run.fault(), 8);
        CHECK.same("nothing of it is written", session.run.outLength(), 290);
        CHECK.same("out(290)", session.run.out(290), -1);
        CHECK.same("steps with it", session.run.steps(), 89);
        session.run.reset();
        session.go("while(x<29){x=x+1;123456789};-2345.6789;7", 2000);
        CHECK.same("the point counts", session.run.fault(), 8);
        session.run.reset();
        session.go("while(x<29){x=x+1;123456789};345.6789;7", 2000);
        CHECK.same("nine and the line's end fit, no more", session.run.outLength(), 299);
        CHECK.same("no more", session.run.fault(), 8);
        session.run.reset();
        session.go("while(0<1)7", 2000);
        CHECK.same("150 lines", session.run.outLength(), 300);
        CHECK.same("then fault 8", session.run.fault(), 8);
        session.go("while(0<1)1/0*7", 2000);
        CHECK.same("the value's fault comes first", session.run.fault(), 2);
    }

    private static void fullTexts() {
        gives("x;".repeat(100), "0 ".repeat(100).trim());
        gives("0" + "+1".repeat(99), "99");
        gives("1" + "*-1".repeat(66), "1");
        gives("{}\n".repeat(66), "");
        gives("define f(x){if(x<1)return 1;return 1+2*(1+2*(1+2*(1+2*f(x-1))))};f(3)", "8191");
        gives("define f(x){if(x<1)return 1;if(0<1+1*1^(1+1*f(x-1)))return x+2*f(x-1)*2^1^f(x-1)};f(3)", "91");
        gives("define f(x){};while(x<9)x=x+1+f(1)+f(2)+f(3)+f(f(f(4)))-f(5)*f(6);x", "9");
        Session session = new Session();
        session.go("define f(x){};while(0==" + "f(1)+".repeat(34) + "0){}", 2000);
        CHECK.same("the most work ends by its fuel", session.run.steps(), 2000);
        CHECK.same("the most work's fault", session.run.fault(), 4);
    }
}
