/** Promises 7 to 10: feed, text, force, asks, and with them the grammar, its FAULTS and its numbers. */
public final class TextTest {
    private static final Check CHECK = new Check("the law");

    public static void main(String[] args) {
        feed();
        text();
        faultsOfTokens();
        faultsOfOrder();
        faultsOfDepth();
        numbers();
        bounds();
        force();
        asks();
        CHECK.finish();
    }

    private static void feed() {
        HorsesOwnWays x = new HorsesOwnWays();
        CHECK.due("feed of 0", x.feed(0, 0, 0, 0, 0, 0), -2);
        CHECK.due("feed of 6", x.feed(6, 0, 0, 0, 0, 0), -2);
        CHECK.due("feed of a byte below 0", x.feed(1, -1, 0, 0, 0, 0), -2);
        for (int i = 1; i <= 4; i++) {
            CHECK.due("feed of a byte above 255, not among the n", x.feed(1, 0, i == 1 ? 256 : 0,
                    i == 2 ? 256 : 0, i == 3 ? 256 : 0, i == 4 ? 256 : 0), -2);
        }
        CHECK.due("count(4) then", x.count(4), 0);
        CHECK.due("feed of 3", x.feed(3, 'o', 'u', 't', 0, 255), 3);
        CHECK.due("feed of 2", x.feed(2, ' ', '1', 0, 0, 0), 5);
        CHECK.due("feed of 5", x.feed(5, ';', 'h', 'o', 'm', 'e'), 10);
        CHECK.due("feed of 4", x.feed(4, ' ', '2', ';', 'd', 0), 14);
        CHECK.due("feed of 1", x.feed(1, 'i', 0, 0, 0, 0), 15);
        Check.feedAll(x, "es 3;");
        CHECK.due("text() of what was fed", x.text(), 1);
        for (int i = 1; i <= 31; i++) {
            CHECK.due("feed of 5", x.feed(5, 32, 32, 32, 32, 32), 5 * i);
        }
        CHECK.due("feed of 3", x.feed(3, 32, 32, 32, 32, 32), 158);
        CHECK.due("feed of 3 where 2 have room", x.feed(3, 32, 32, 32, 32, 32), -4);
        CHECK.due("feed of a wrong byte there: BAD first", x.feed(3, 32, 32, 32, 32, 256), -2);
        CHECK.due("feed of 2 where 2 have room", x.feed(2, 32, 32, 32, 32, 32), 160);
        CHECK.due("feed of 1 where none has", x.feed(1, 32, 32, 32, 32, 32), -4);
        CHECK.due("count(4) then", x.count(4), 160);
        CHECK.due("text() of blanks", x.text(), -260);
    }

    private static void text() {
        HorsesOwnWays x = new HorsesOwnWays();
        CHECK.due("an empty text", x.text(), -100);
        CHECK.due("a text", Check.textOf(x, "out 1;home 2;dies 3;"), 1);
        CHECK.due("THE TAPE then", x.count(4), 0);
        CHECK.due("a text with a FAULT", Check.textOf(x, "out 1;home 2;dies 3"), -119);
        CHECK.due("THE TAPE then", x.count(4), 0);
        CHECK.due("TEXTS then", x.count(2), 2);
        for (int t = 2; t < 6; t++) {
            CHECK.due("a further text", Check.textOf(x, "\n out\n1;home 2 ;dies 3;\n "), t);
        }
        CHECK.due("a seventh text", Check.textOf(x, "out"), -4);
        CHECK.due("THE TAPE then", x.count(4), 3);
        CHECK.due("a seventh text, again", x.text(), -4);
    }

    private static void fault(String text, int place) {
        CHECK.due("text() of \"" + text + "\"", Check.textOf(new HorsesOwnWays(), text), -100 - place);
    }

    private static void faultsOfTokens() {
        fault("out 1;home 2;dies 3; ", -101);
        fault("out 12345;home 2;dies 3;", 4);
        fault("out 00001;home 2;dies 3;", 4);
        fault("out 99999999999999;home 2;dies 3;", 4);
        fault("out 9999;home 2;dies 3", 22);
        fault("out tolds;home 2;dies 3;", 4);
        fault("out tol;home 2;dies 3;", 4);
        fault("out readyready;home 2;dies 3;", 4);
        fault("outtold;home 2;dies 3;", 0);
        fault("outz 1;home 2;dies 3;", 0);
        fault("xut 1;home 2;dies 3;", 0);
        fault("ou 1;home 2;dies 3;", 0);
        fault("out xold;home 2;dies 3;", 4);
        fault("out Told;home 2;dies 3;", 4);
        fault("out\t1;home 2;dies 3;", 3);
        fault("out 1/2;home 2;dies 3;", 5);
        fault("out 1" + (char) 233 + ";home 2;dies 3;", 5);
        fault("out 1>2;home 2;dies 3;", 5);
        fault("out 1`;home 2;dies 3;", 5);
        fault("out 1{;home 2;dies 3;", 5);
        fault("out 1:;home 2;dies 3;", 5);
    }

    private static void faultsOfOrder() {
        fault("home 2;out 1;dies 3;", 0);
        fault("out 1;dies 3;home 2;", 6);
        fault("out ;home 2;dies 3;", 4);
        fault("out 1 home 2;dies 3;", 6);
        fault("out 1;home 2;dies 3;;", 20);
        fault("out 1;home 2;dies 3; out", 21);
        fault("out 1;home 2;dies 3", 19);
        fault("out 1;home 2;dies 3  ", 21);
        fault("out 1 2;home 2;dies 3;", 6);
        fault("out 2told;home 2;dies 3;", 5);
        fault("out 1<2<3;home 2;dies 3;", 7);
        fault("out 1=2<3;home 2;dies 3;", 7);
        fault("out 1+not 2;home 2;dies 3;", 6);
        fault("out - not 2;home 2;dies 3;", 6);
        fault("out 1<not 2;home 2;dies 3;", 6);
        fault("out +1;home 2;dies 3;", 4);
        fault("out 1*;home 2;dies 3;", 6);
        fault("out ();home 2;dies 3;", 5);
        fault("out (1;home 2;dies 3;", 6);
        fault("out 1);home 2;dies 3;", 5);
        fault("out 1 or;home 2;dies 3;", 8);
        fault("out and 1;home 2;dies 3;", 4);
        fault("out out;home 2;dies 3;", 4);
        fault("out 1+", 6);
        fault("out", 3);
        fault(";", 0);
        fault(" told", 1);
    }

    private static void faultsOfDepth() {
        String rest = ";home 2;dies 3;";
        fault("out (((((1)))))" + rest, -101);
        fault("out ((((((1))))))" + rest, 9);
        fault("out -----1" + rest, -101);
        fault("out ------1" + rest, 9);
        fault("out not not not not not 1" + rest, -101);
        fault("out not not not not not not 1" + rest, 24);
        fault("out not not not not not (1)" + rest, 24);
        fault("out not(-(-1))" + rest, -101);
        fault("out not(-(-(1)))" + rest, 11);
        fault("out not(-(-(" + rest, 11);
        fault("out -----1 - -----1" + rest, -101);
        fault("out -----1 - ------1" + rest, 18);
        fault("out not not not not not 1 or not not not not not 1" + rest, -101);
        fault("out ((((-1*-1--1))))" + rest, -101);
        fault("out ((((-(1)))))" + rest, 9);
        fault("out (((((1)))))+(((((1)))))" + rest, -101);
        fault("out (((((not 1)))))" + rest, 9);
        fault("out 1-1-1-1-1-1-1-1" + rest, -101);
    }

    private static void number(String e, int want) {
        CHECK.due("out by \"" + e + "\"", Check.outBy(e), want);
    }

    private static void numbers() {
        number("told", 40);
        number("more", 7);
        number("from+100", 102);
        number("to", 6);
        number("ready", 11);
        number("far", 120);
        number("1+2*3", 7);
        number("(1+2)*3", 9);
        number("20-5-4", 11);
        number("20-(5-4)", 19);
        number("- 5+20", 15);
        number("2*-3+20", 14);
        number("--5", 5);
        number("10+(3<4)", 11);
        number("10+(4<4)", 10);
        number("10+(4=4)", 11);
        number("10+(4=5)", 10);
        number("10+(1+1=2)", 11);
        number("10+(7 and 8)", 11);
        number("10+(1 and 1)", 11);
        number("10+(7 and 0)", 10);
        number("10+(0 and 7)", 10);
        number("10+(0 or -1)", 11);
        number("10+(0 or 0)", 10);
        number("10+(not 0)", 11);
        number("10+(not 5)", 10);
        number("10+(not not 5)", 11);
        number("10+(not 1=2)", 11);
        number("10+(1 or 1 and 0)", 11);
        number("10+((1 or 1) and 0)", 10);
        number("10+(not 1 or 1)", 11);
        number("10+(0 and 0 or 1)", 11);
        number("7 or 0", 1);
        number("0009", 9);
        number("9999-9000", 999);
        number("9999*9999*9999*9999*0+5", 5);
        number("3+(8000*8000*8*8<0)", 4);
        number("3+(8000*8000*40<0)", 4);
        number("1024*1024*1024*4+77", 77);
    }

    private static void bounds() {
        number("0", 1);
        number("-5", 1);
        number("999", 999);
        number("1000", 999);
        HorsesOwnWays x = new HorsesOwnWays();
        Check.textOf(x, "out 1;home 0;dies -1;");
        Check.textOf(x, "out 1;home 1000;dies 101;");
        Check.textOf(x, "out 1;home 999;dies 100;");
        x.horse(0, 1, 5, 5);
        int[] homes = {5, 1, 999, 999};
        int[] dies = {5, 0, 100, 100};
        for (int t = 0; t < 4; t++) {
            x.force(t);
            CHECK.due("asks(1, 0) by " + t, x.asks(1, 0), homes[t]);
            CHECK.due("asks(2, 0) by " + t, x.asks(2, 0), dies[t]);
        }
    }

    private static void force() {
        HorsesOwnWays x = new HorsesOwnWays();
        CHECK.due("force(1) of none", x.force(1), -2);
        Check.textOf(x, "out 77;home 78;dies 79;");
        CHECK.due("force(1)", x.force(1), 0);
        CHECK.due("count(3)", x.count(3), 1);
        CHECK.due("force(1) again", x.force(1), 1);
        CHECK.due("force(2)", x.force(2), -2);
        CHECK.due("force(-1)", x.force(-1), -2);
        x.horse(0, 16, 5, 5);
        CHECK.due("told(0, 6)", x.told(0, 6), 77);
        CHECK.due("force(0)", x.force(0), 1);
        CHECK.due("told(0, 6) then", x.told(0, 6), 5);
    }

    private static void asks() {
        HorsesOwnWays x = new HorsesOwnWays();
        x.horse(4, 25, 100, 9);
        Check.textOf(x, "out far+ready;home from*10+to;dies more*told;");
        CHECK.due("asks(0, 0)", x.asks(0, 0), 100);
        CHECK.due("asks(2, 0)", x.asks(2, 0), 9);
        x.force(1);
        CHECK.due("asks(0, 0): not MORE more", x.asks(0, 0), 90);
        x.stand(0, 9);
        CHECK.due("asks(0, 0) behind stand", x.asks(0, 0), 99);
        x.path(5, 2, 500);
        CHECK.due("asks(0, 0) behind path", x.asks(0, 0), 509);
        CHECK.due("asks(1, 0): not twice", x.asks(1, 0), 25);
        CHECK.due("asks(2, 0)", x.asks(2, 0), 100);
        CHECK.due("asks(3, 0)", x.asks(3, 0), -7);
        CHECK.due("asks(-1, 0)", x.asks(-1, 0), -7);
        CHECK.due("asks(3, 1), -5 first", x.asks(3, 1), -5);
        CHECK.due("asks(0, -1)", x.asks(0, -1), -5);
    }
}
