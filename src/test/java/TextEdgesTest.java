/** The edges of THE TAPE, of TOKENS, of what is open, and of an E as an int; promises 7 to 10. */
public final class TextEdgesTest {
    private static final Check CHECK = new Check("the law at its edges");
    private static final String REST = ";home 1;dies 1;";

    public static void main(String[] args) {
        eachByte();
        eachEnd();
        blanksAtTheEnd();
        wholeTape();
        eachChainOfOpenOnes();
        openOnesEnd();
        widths();
        truth();
        wrapping();
        wrappingLikeJava();
        boundsBehindWrapping();
        faultEmptiesTheTapeAlone();
        faultLeavesNothingOfItsText();
        behindTheLastSign();
        fullTextsKeepTheTape();
        eachText();
        mostNumbersWait();
        CHECK.finish();
    }

    private static void read(String text, int due) {
        CHECK.due("text() of \"" + text + "\"", Check.textOf(new HorsesOwnWays(), text), due);
    }

    /** Behind a NUMBER any byte stands: a blank, a digit, a SIGN that leads on, or a FAULT. */
    private static void eachByte() {
        for (int b = 0; b < 256; b++) {
            char c = (char) b;
            boolean stands = b == 32 || b == 10 || c >= '0' && c <= '9';
            boolean leadsOn = "+-*<=".indexOf(c) >= 0 || c == ';';
            read("out 1" + c + REST, stands ? 1 : leadsOn ? -106 : -105);
            read(c + "out 1" + REST, b == 32 || b == 10 ? 1 : -100);
        }
        for (char c = 'a'; c <= 'z'; c++) {
            read("out " + c + REST, -104);
            read("out told" + c + REST, -104);
            read("out " + c + "told" + REST, -104);
            read("out1 " + c + REST, -105);
        }
    }

    /** Each beginning of a text: it ends too early at its size, or within a WORD that is none. */
    private static void eachEnd() {
        String text = "out 12;home 3;dies 4;";
        int[] faults = {0, 0, 0, 3, 4, 5, 6, 7, 7, 7, 7, 11, 12, 13, 14, 14, 14, 14, 18, 19, 20};
        for (int size = 0; size < text.length(); size++) {
            read(text.substring(0, size), -100 - faults[size]);
        }
        read(text, 1);
        String[] early = {"out (", "out (1", "out not", "out -", "out 1 or", "out 1 and", "out 1<", "out 1=", "out 1+", "out 1-",
            "out 1*", "out to", "out ((((("};
        for (String e : early) {
            read(e, -100 - e.length());
        }
    }

    /** The text's size is that of all that was fed, blanks, too. */
    private static void blanksAtTheEnd() {
        read(" ", -101);
        read("\n\n ", -103);
        read("out 1;home 1;dies 1 \n ", -122);
        read("out 1;home 1;dies 1; \n ", 1);
        read(" \n out 1;home 1;dies 1;", 1);
    }

    private static void wholeTape() {
        String text = "out 1;home 1;dies 1;";
        read(text + " ".repeat(140), 1);
        read(" ".repeat(140) + text, 1);
        read(text + " ".repeat(139) + "1", -259);
        read(text.substring(0, 19) + " ".repeat(141), -260);
        read(text.substring(0, 19) + " ".repeat(140) + ";", 1);
        read(text + " ".repeat(138) + "or", -258);
        read(" ".repeat(160), -260);
        read(" ".repeat(159), -259);
        StringBuilder sum = new StringBuilder("out 1");
        while (sum.length() + REST.length() < 160) {
            sum.append("+1");
        }
        HorsesOwnWays x = new HorsesOwnWays();
        x.horse(0, 1, 5, 5);
        Check.feedAll(x, sum + REST);
        CHECK.due("bytes of the longest text", x.count(4), 160);
        CHECK.due("the longest text", x.text(), 1);
        x.force(1);
        CHECK.due("out by the longest text", x.asks(0, 0), 71);
        CHECK.due("home by the longest text", x.asks(1, 0), 1);
    }

    /** All chains of 6 of ( , not , - : the sixth can't stand, nor a not behind a - . */
    private static void eachChainOfOpenOnes() {
        String[] openers = {"(", "not ", "-"};
        for (int chain = 0; chain < 729; chain++) {
            for (int length = 5; length <= 6; length++) {
                checkChain(openers, chain, length);
            }
        }
    }

    private static void checkChain(String[] openers, int chain, int length) {
        StringBuilder e = new StringBuilder("out ");
        int fault = -1;
        int closing = 0;
        int last = 0;
        for (int i = 0, rest = chain; i < length; i++, rest /= 3) {
            int opener = rest % 3;
            boolean canStand = i < 5 && !(i > 0 && last == 2 && opener == 1);
            fault = fault < 0 && !canStand ? e.length() : fault;
            e.append(openers[opener]);
            closing += opener == 0 ? 1 : 0;
            last = opener;
        }
        read(e + "1" + ")".repeat(closing) + REST, fault < 0 ? 1 : -100 - fault);
    }

    /** A ( is open till its ) , a not and a - till what they belong to ends: then 5 may be open anew. */
    private static void openOnesEnd() {
        String five = "(((((1)))))";
        read("out " + five + "*" + five + REST, 1);
        read("out " + five + "<" + five + " or " + five + " and " + five + REST, 1);
        read("out (1)*-----1+-----1" + REST, 1);
        read("out -(1)*----(1)" + REST, 1);
        read("out not 1 and not not not not not 1" + REST, 1);
        read("out (not(1)and((((2)))))" + REST, 1);
        // a not is open as far as the whole comparison that it belongs to
        read("out not 1<((((2))))" + REST, 1);
        read("out not 1<(((((2)))))" + REST, -114);
        read("out not 1+-----2" + REST, -114);
        read("out not 1*----2" + REST, 1);
        read("out not 1 or -----2" + REST, 1);
        // a - as far as its ONE alone
        read("out -1*-----2" + REST, 1);
        read("out ----(1+-2)" + REST, -111);
        read("out ---(1+-2)" + REST, 1);
        read("out (1)-(((((2)))))" + REST, 1);
        read("out (1-((((2)))))" + REST, 1);
        read("out (1-(((((2))))))" + REST, -111);
        read("out 1" + REST.replace("1", five), 1);
    }

    /** As many letters, as many digits as stand there; no blank is needed between unlike ones. */
    private static void widths() {
        read("out1;home2;dies3;", 1);
        read("out\n9999;home 0000;dies(told)or 1and 2;", 1);
        read("out 0or 1" + REST, 1);
        read("out 1 o r 2" + REST, -106);
        read("out 1 2" + REST, -106);
        read("out 10000" + REST, -104);
        read("out 00000" + REST, -104);
        read("out 1+99999" + REST, -106);
        read("out 9999" + REST, 1);
        read("out 0000" + REST, 1);
        read("out 1;home 1;dies 12345;", -118);
        read("ou t 1" + REST, -100);
        read("outhome 1" + REST, -100);
        read("out toldmore" + REST, -104);
        read("out told more" + REST, -109);
        read("out home" + REST, -104);
        read("out dies" + REST, -104);
        read("out or" + REST, -104);
    }

    private static void isTrue(String e, boolean due) {
        CHECK.due("whether " + e, Check.outBy("5+(" + e + ")"), due ? 6 : 5);
    }

    /** What is not 0 is true, below 0, too; of what is true and false, 1 and 0 come. */
    private static void truth() {
        for (int a : new int[] {-9999, -2, -1, 0, 1, 2, 9999}) {
            String one = a < 0 ? "-" + -a : "" + a;
            isTrue("(not " + one + ")=" + (a == 0 ? 1 : 0), true);
            isTrue("(not not " + one + ")=" + (a == 0 ? 0 : 1), true);
            for (int b : new int[] {-9999, -1, 0, 1, 9999}) {
                String other = b < 0 ? "-" + -b : "" + b;
                isTrue("(" + one + " or " + other + ")=" + (a != 0 || b != 0 ? 1 : 0), true);
                isTrue("(" + one + " and " + other + ")=" + (a != 0 && b != 0 ? 1 : 0), true);
                isTrue("(" + one + "<" + other + ")=" + (a < b ? 1 : 0), true);
                isTrue("(" + one + "=" + other + ")=" + (a == b ? 1 : 0), true);
            }
        }
    }

    private static void wrapping() {
        String least = "1024*1024*2048";
        String most = "(1024*1024*2048-1)";
        isTrue(least + "<0", true);
        isTrue("0<" + most, true);
        isTrue(most + "+1=" + least, true);
        isTrue(most + "+1<0", true);
        isTrue(least + "-1=" + most, true);
        isTrue("-(" + least + ")=" + least, true);
        isTrue("-" + most + "=" + least + "+1", true);
        isTrue(least + "<" + most, true);
        isTrue(most + "<" + least, false);
        isTrue(least + "<" + least, false);
        isTrue("1024*1024*4096=0", true);
        isTrue("not 1024*1024*4096", true);
        isTrue("1024*1024*4096 or 0", false);
        isTrue("1024*1024*4096+1 and 1", true);
        isTrue(least + " and 1", true);
        isTrue(most + "*" + most + "=1", true);
        isTrue(least + "*-1=" + least, true);
    }

    private static void wrappingLikeJava() {
        int[] numbers = {0, 1, 2, 46, 463, 4634, 9999};
        for (int a : numbers) {
            for (int b : numbers) {
                for (int c : numbers) {
                    long product = (long) a * a * b;
                    int e = (int) product * 100 - c * b * a;
                    isTrue(a + "*" + a + "*" + b + "*100-" + c + "*" + b + "*" + a + "<0", e < 0);
                }
            }
        }
    }

    /** What an E says is wrapped ahead of its bounds. */
    private static void boundsBehindWrapping() {
        CHECK.due("out of the least int", Check.outBy("1024*1024*2048"), 1);
        CHECK.due("out of the greatest int", Check.outBy("1024*1024*2048-1"), 999);
        CHECK.due("out of an int that is 0 again", Check.outBy("1024*1024*4096"), 1);
        CHECK.due("out of an int that is 7 again", Check.outBy("1024*1024*4096+7"), 7);
        HorsesOwnWays x = new HorsesOwnWays();
        x.horse(0, 1, 5, 5);
        Check.textOf(x, "out 1;home 1024*1024*2048;dies 1024*1024*2048;");
        Check.textOf(x, "out 1;home 1024*1024*2048-1;dies 1024*1024*2048-1;");
        int[][] due = {{1, 0}, {999, 100}};
        for (int t = 1; t <= 2; t++) {
            x.force(t);
            CHECK.due("home of text " + t, x.asks(1, 0), due[t - 1][0]);
            CHECK.due("dies of text " + t, x.asks(2, 0), due[t - 1][1]);
        }
        int[] said = {-1, 0, 1, 2, 99, 100, 101, 998, 999, 1000, 1001, 9999};
        for (int v : said) {
            HorsesOwnWays y = new HorsesOwnWays();
            y.horse(0, 1, 5, 5);
            Check.textOf(y, "out " + v + ";home " + v + ";dies " + v + ";");
            y.force(1);
            CHECK.due("out where " + v + " is said", y.asks(0, 0), Math.max(1, Math.min(v, 999)));
            CHECK.due("home where " + v + " is said", y.asks(1, 0), Math.max(1, Math.min(v, 999)));
            CHECK.due("dies where " + v + " is said", y.asks(2, 0), Math.max(0, Math.min(v, 100)));
        }
    }

    /** After a FAULT there is no TEXT more, THE TAPE is empty, and all else is as before. */
    private static void faultEmptiesTheTapeAlone() {
        HorsesOwnWays x = new HorsesOwnWays();
        x.horse(0, 6, 20, 3);
        CHECK.due("a TEXT", Check.textOf(x, "out 8;home 9;dies 10;"), 1);
        x.force(1);
        CHECK.due("a FAULT at the end", Check.textOf(x, "out 18;home 19;dies 20;;"), -123);
        CHECK.due("bytes then", x.count(4), 0);
        CHECK.due("TEXTS then", x.count(2), 2);
        CHECK.due("THE LAW then", x.count(3), 1);
        CHECK.due("force of what had a FAULT", x.force(2), -2);
        CHECK.due("out then", x.asks(0, 0), 8);
        CHECK.due("an empty TAPE", x.text(), -100);
        CHECK.due("a TEXT behind FAULTS", Check.textOf(x, "out 28;home 29;dies 30;"), 2);
        x.force(2);
        CHECK.due("its out", x.asks(0, 0), 28);
        CHECK.due("its home", x.asks(1, 0), 29);
        CHECK.due("its dies", x.asks(2, 0), 30);
    }

    /** A TEXT behind one with a FAULT says what it says by itself, however long the other one was. */
    private static void faultLeavesNothingOfItsText() {
        String[] spoilt = {"out 1;home 1;dies -1", "out 1;home 1;dies not 1", "out 1;home -1;dies 1?", "out - - 1;", "out -",
            "out 5*(-3+not 4", "out 1;home 2;dies not - 3;;", "out 1;home 1;dies 1-2*-3"};
        for (String other : spoilt) {
            HorsesOwnWays x = new HorsesOwnWays();
            x.horse(0, 1, 5, 5);
            CHECK.due("whether \"" + other + "\" has a FAULT", Check.textOf(x, other) <= -100 ? 1 : 0, 1);
            CHECK.due("a TEXT behind it", Check.textOf(x, "out 30;home 40;dies 50;"), 1);
            x.force(1);
            for (int part = 0; part < 3; part++) {
                CHECK.due("part " + part + " behind \"" + other + "\"", x.asks(part, 0), 30 + 10 * part);
            }
        }
    }

    /** Behind the last ; nothing can stand but blanks: no TOKEN, and nothing that is none. */
    private static void behindTheLastSign() {
        String text = "out 1;home 1;dies 1;";
        for (String more : new String[] {"?", "x", "tolds", "12345", "1", "told", "out", ";", ")", "(", "-", "not", "=", "A", "\t"}) {
            read(text + more, -120);
            read(text + " " + more, -121);
            read(text + more + " ", -120);
        }
        for (int b = 0; b < 256; b++) {
            read(text + (char) b, b == 32 || b == 10 ? 1 : -120);
        }
    }

    private static void fullTextsKeepTheTape() {
        HorsesOwnWays x = new HorsesOwnWays();
        for (int t = 1; t <= 4; t++) {
            Check.lawAgain(x);
        }
        CHECK.due("a FAULT while one has room", Check.textOf(x, "?"), -100);
        CHECK.due("the sixth TEXT", Check.lawAgain(x), 5);
        CHECK.due("a FAULT while none has", Check.textOf(x, "?"), -4);
        CHECK.due("bytes then", x.count(4), 1);
        CHECK.due("and again", x.text(), -4);
        CHECK.due("a byte more", x.feed(1, ' ', 0, 0, 0, 0), 2);
        CHECK.due("TEXTS then", x.count(2), 6);
    }

    /** Each of 6 TEXTS keeps what it says. */
    private static void eachText() {
        HorsesOwnWays x = new HorsesOwnWays();
        x.horse(0, 35, 40, 6);
        for (int t = 1; t < 6; t++) {
            Check.textOf(x, "out " + 10 * t + "+more;home " + t + ";dies " + 3 * t + ";");
        }
        for (int t = 5; t >= 0; t--) {
            x.force(t);
            CHECK.due("out by " + t, x.asks(0, 0), t == 0 ? 40 : 10 * t + 6);
            CHECK.due("home by " + t, x.asks(1, 0), t == 0 ? 40 : t);
            CHECK.due("dies by " + t, x.asks(2, 0), t == 0 ? 6 : 3 * t);
        }
        CHECK.due("force(6)", x.force(6), -2);
        CHECK.due("THE LAW", x.count(3), 0);
    }

    /** As many numbers wait as ever can: five at each of six depths. */
    private static void mostNumbersWait() {
        String deep = "0or 1and 1<2+1*(";
        HorsesOwnWays x = new HorsesOwnWays();
        x.horse(0, 1, 5, 5);
        CHECK.due("the deepest text", Check.textOf(x, "out 500+1*(" + deep.repeat(4) + "0or 1and 1=2-told"
                + ")".repeat(5) + REST), 1);
        x.force(1);
        // 1 = 2 - 5 is 0; 1 < 2 + 0 is 1; 1 < 2 + 1 is 1
        CHECK.due("out by it", x.asks(0, 0), 501);
        CHECK.due("another deep text", Check.textOf(x, "out 0or 1and 0<1+7*(" + "0or 1and 9<2+8*(".repeat(4) + "told"
                + ")".repeat(5) + REST), 2);
        // 9 < 2 + 8 * 5 is 1, 9 < 2 + 8 is 1, ..; 0 < 1 + 7 is 1
        x.force(2);
        CHECK.due("out by it", x.asks(0, 0), 1);
    }
}
