/** Promises 28 to 32: judge, wet, whence, laws, film. */
public final class ToldRidesTest {
    private static final Check CHECK = new Check("told rides");

    public static void main(String[] args) {
        judge();
        judgeFaults();
        wet();
        whence();
        laws();
        film();
        eachNumber();
        wholeSheets();
        eachHorseOnce();
        wetOfAll();
        eachSize();
        filmIsOfThatTime();
        CHECK.finish();
    }

    private static void told(HorsesOwnWays x, int a, int first, int minute, int place, int... pieces) {
        Check.fill(x, 0, 2, pieces);
        String call = "judge(0, " + a + ", ..) of " + java.util.Arrays.toString(pieces);
        CHECK.due(call + " 0", x.judge(0, a, 0), first);
        CHECK.due(call + " 1", x.judge(0, a, 1), minute);
        CHECK.due(call + " 2", x.judge(0, a, 2), place);
    }

    private static void judge() {
        HorsesOwnWays x = new HorsesOwnWays();
        x.horse(0, 16, 10, 0);
        x.horse(1, 64, 5, 0);
        x.stand(0, 100);
        told(x, 3, -1, 0, 3);
        told(x, 0, -1, 115, 4, 71, 6, 14);
        told(x, 0, -1, 145, 3, 71, 6, 14, 73);
        told(x, 4, -1, 5, 6, 16);
        told(x, 0, -1, 360, 0, 76, 70);
        HorsesOwnWays y = new HorsesOwnWays();
        y.horse(0, 30, 10, 0);
        told(y, 3, -1, 10, 0, 0);
        Check.fill(x, 1, 0, 71, 6);
        CHECK.due("judge of bytes", x.judge(1, 0, 1), 110);
        Check.fill(x, 1, 1, 71, 6);
        CHECK.due("judge of shorts", x.judge(1, 0, 1), 110);
        x.sheet(1, 2, 40);
        CHECK.due("judge of a whole SHEET of 0", x.judge(1, 0, 0), 0);
    }

    private static void judgeFaults() {
        HorsesOwnWays x = new HorsesOwnWays();
        x.horse(0, 16, 10, 0);
        x.horse(1, 64, 5, 0);
        x.horse(3, 25, 7, 0);
        told(x, 0, 1, 30, 1, 71, 71);
        told(x, 0, 0, 0, 0, 6);
        told(x, 1, 0, 0, 1, 5);
        told(x, 0, 1, 30, 1, 71, 77);
        told(x, 0, 1, 30, 1, 71, 7);
        told(x, 0, 1, 30, 1, 71, -1);
        told(x, 0, 1, 30, 1, 71, 30);
        told(x, 0, 1, 30, 1, 71, 80);
        told(x, 0, 1, 30, 1, 71, 86);
        told(x, 0, 1, 30, 1, 71, Integer.MAX_VALUE);
        told(x, 0, 1, 30, 1, 71, Integer.MIN_VALUE);
        told(x, 6, 1, 5, 4, 14, 16);
        told(x, 4, 2, 155, 1, 16, 71, 16);
        told(x, 2, 0, 0, 2, 25);
        told(x, 2, -1, 7, 6, 26);
        CHECK.due("judge(4, 0, 0)", x.judge(4, 0, 0), -2);
        CHECK.due("judge(-1, 0, 0)", x.judge(-1, 0, 0), -2);
        CHECK.due("judge(1, 7, 3): missing first", x.judge(1, 7, 3), -11);
        CHECK.due("judge(0, 7, 3), -5 first", x.judge(0, 7, 3), -5);
        CHECK.due("judge(0, -1, 0)", x.judge(0, -1, 0), -5);
        CHECK.due("judge(0, 0, 3)", x.judge(0, 0, 3), -7);
        CHECK.due("judge(0, 0, -1)", x.judge(0, 0, -1), -7);
    }

    private static void wet() {
        HorsesOwnWays x = new HorsesOwnWays();
        x.horse(0, 50, 1, 0);
        x.horse(0, 1, 1, 0);
        // by 0 alone: 3 .. 6 to 0; by 1 alone: 0 to each other one; by both: 4 .. 6 to 1, 5 and 6 to 2
        CHECK.due("wet(1, 0)", x.wet(1, 0), 4);
        CHECK.due("wet(1, 1)", x.wet(1, 1), 30);
        CHECK.due("wet(2, 0)", x.wet(2, 0), 6);
        CHECK.due("wet(2, 1)", x.wet(2, 1), 1);
        CHECK.due("wet(3, 0)", x.wet(3, 0), 5);
        CHECK.due("wet(3, 1)", x.wet(3, 1), 41);
        CHECK.due("wet(0, 0)", x.wet(0, 0), 27);
        CHECK.due("wet(0, 1)", x.wet(0, 1), 10);
        CHECK.due("wet(4, 0)", x.wet(4, 0), -2);
        CHECK.due("wet(-1, 0)", x.wet(-1, 0), -2);
        CHECK.due("wet(0, 2)", x.wet(0, 2), -2);
        CHECK.due("wet(0, -1)", x.wet(0, -1), -2);
        HorsesOwnWays y = new HorsesOwnWays();
        y.horse(0, 1, 900, 0);
        CHECK.due("wet(1, 0): none", y.wet(1, 0), 0);
        CHECK.due("wet(1, 1): none", y.wet(1, 1), -1);
    }

    private static void whence() {
        HorsesOwnWays x = new HorsesOwnWays();
        Check.fill(x, 0, 2, 60, 30, 0, 30, 60, 90, 120);
        CHECK.due("whence(0)", x.whence(0), 4);
        x.cell(0, 6, 121);
        CHECK.due("whence(0), one other", x.whence(0), 0);
        x.cell(0, 6, 120);
        x.cell(0, 0, 61);
        CHECK.due("whence(0), the first one other", x.whence(0), 0);
        Check.fill(x, 0, 1, 0, 30, 60, 90, 120, 150, 180);
        CHECK.due("whence(0) of shorts", x.whence(0), 1);
        Check.fill(x, 0, 0, 90, 60, 30, 0, 30, 60, 90);
        CHECK.due("whence(0) of bytes", x.whence(0), 8);
        x.sheet(0, 2, 6);
        CHECK.due("whence(0) of 6", x.whence(0), -2);
        x.sheet(0, 2, 8);
        CHECK.due("whence(0) of 8", x.whence(0), -2);
        CHECK.due("whence(1)", x.whence(1), -11);
        CHECK.due("whence(4)", x.whence(4), -2);
        CHECK.due("whence(-1)", x.whence(-1), -2);
    }

    private static void laws() {
        HorsesOwnWays x = new HorsesOwnWays();
        x.horse(0, 6, 20, 3);
        Check.textOf(x, "out 20;home 1;dies 0;");
        Check.textOf(x, "out 21;home 1;dies 0;");
        Check.textOf(x, "out told;home 1;dies 0;");
        x.force(2);
        Check.fill(x, 3, 2, 0, 30, 60, 90, 80, 50, 20);
        CHECK.due("laws(3, 0)", x.laws(3, 0), 11);
        CHECK.due("count(3) then", x.count(3), 2);
        CHECK.due("told(0, 6) then", x.told(0, 6), 21);
        CHECK.due("asks(2, 0) then", x.asks(2, 0), 0);
        CHECK.due("laws(3, 1)", x.laws(3, 1), 0);
        x.cell(3, 6, 0);
        CHECK.due("laws(3, 0) of another", x.laws(3, 0), 0);
        CHECK.due("laws(3, 7)", x.laws(3, 7), -5);
        CHECK.due("laws(3, -1)", x.laws(3, -1), -5);
        x.sheet(3, 2, 8);
        CHECK.due("laws(3, 7): BAD first", x.laws(3, 7), -2);
        CHECK.due("laws(2, 7): missing first", x.laws(2, 7), -11);
        CHECK.due("laws(4, 7): BAD first", x.laws(4, 7), -2);
    }

    private static void film() {
        HorsesOwnWays x = new HorsesOwnWays();
        x.horse(0, 16, 10, 0);
        CHECK.due("film(2, 1) of a missing one", x.film(2, 1), 7);
        CHECK.due("whence(2) then", x.whence(2), 2);
        x.sheet(2, 0, 3);
        CHECK.due("film(2, 5) of bytes", x.film(2, 5), 7);
        CHECK.due("whence(2) then", x.whence(2), 32);
        CHECK.due("cell(2, 7, 0): 7 of them", x.cell(2, 7, 0), -12);
        x.sheet(1, 2, 1);
        CHECK.due("copy: ints", x.copy(2, 0, 1, 0, 1), 1);
        CHECK.due("film(2, 7)", x.film(2, 7), -5);
        CHECK.due("film(2, -1)", x.film(2, -1), -5);
        CHECK.due("whence(2) then", x.whence(2), 32);
        CHECK.due("film(4, 7): BAD first", x.film(4, 7), -2);
        CHECK.due("film(-1, 0)", x.film(-1, 0), -2);
        x.path(0, 1, 1);
        CHECK.due("film(0, 0)", x.film(0, 0), 7);
        x.path(0, 1, 2);
        CHECK.due("whence(0): no longer", x.whence(0), 0);
    }

    /** Each number from each PLACE: a PIECE that can be, or none such. */
    private static void eachNumber() {
        HorsesOwnWays x = States.made(States.FULL);
        for (int a = 0; a < 7; a++) {
            for (int v = -80; v <= 170; v++) {
                int by = v / 10;
                int to = v % 10;
                boolean canBe = v >= 0 && by <= 7 && to <= 6 && to != a && (by == 7 || x.goes(by, a) == to);
                int minute = !canBe ? 0 : by == 7 ? x.pathTold(a, to) : x.told(by, 5) + x.told(by, 6);
                Check.fill(x, 0, 2, v);
                CHECK.due("judge of " + v + " from " + a, x.judge(0, a, 0), canBe ? -1 : 0);
                CHECK.due("its minute", x.judge(0, a, 1), minute);
                CHECK.due("its PLACE", x.judge(0, a, 2), canBe ? to : a);
            }
        }
    }

    /** SHEETS of 0 and of 40 PIECES; the first that can't be is the last of them. */
    private static void wholeSheets() {
        HorsesOwnWays x = new HorsesOwnWays();
        for (int sort = 0; sort < 3; sort++) {
            for (int a = 0; a < 7; a++) {
                x.sheet(0, sort, 0);
                CHECK.due("judge of no PIECE", x.judge(0, a, 0), -1);
                CHECK.due("its minute", x.judge(0, a, 1), 0);
                CHECK.due("its PLACE", x.judge(0, a, 2), a);
            }
            x.sheet(0, sort, 40);
            for (int i = 0; i < 40; i++) {
                x.cell(0, i, i % 2 == 0 ? 76 : 70);
            }
            CHECK.due("judge of 40 PIECES", x.judge(0, 0, 0), -1);
            CHECK.due("its minute", x.judge(0, 0, 1), 7200);
            CHECK.due("its PLACE", x.judge(0, 0, 2), 0);
            x.cell(0, 39, 76);
            CHECK.due("judge of 39 PIECES and one to where one is", x.judge(0, 0, 0), 39);
            CHECK.due("the minute ahead of it", x.judge(0, 0, 1), 7020);
            CHECK.due("the PLACE ahead of it", x.judge(0, 0, 2), 6);
            x.path(0, 6, 999);
            x.cell(0, 39, 70);
            CHECK.due("the greatest minute of 40 WALKS", x.judge(0, 0, 1), 39960);
            x.path(0, 6, 180);
        }
    }

    /** A HORSE that was told ahead can't be, though it would GO so; READY counts as it does for SOON. */
    private static void eachHorseOnce() {
        HorsesOwnWays x = new HorsesOwnWays();
        for (int h = 0; h < 7; h++) {
            x.horse(1, 1, 10, 0);
        }
        told(x, 0, -1, 70, 1, 1, 10, 21, 30, 41, 50, 61);
        told(x, 0, 7, 70, 1, 1, 10, 21, 30, 41, 50, 61, 0);
        told(x, 0, 7, 70, 1, 1, 10, 21, 30, 41, 50, 61, 60);
        told(x, 0, 1, 10, 1, 61, 60);
        x.stand(1, 9);
        told(x, 0, -1, 20, 0, 1, 10);
        x.stand(1, 10);
        told(x, 0, -1, 20, 0, 1, 10);
        x.stand(1, 11);
        told(x, 0, -1, 21, 0, 1, 10);
        HorsesOwnWays y = new HorsesOwnWays();
        y.horse(3, 21, 5, 0);
        y.horse(5, 30, 5, 3);
        told(y, 2, 0, 0, 2, 2);
        told(y, 1, -1, 5, 3, 3);
        told(y, 3, 0, 0, 3, 13);
        told(y, 3, 0, 0, 3, 10);
    }

    private static void wetOfAll() {
        HorsesOwnWays x = new HorsesOwnWays();
        CHECK.due("wet(0, 0) of none", x.wet(0, 0), 42);
        CHECK.due("wet(0, 1) of none", x.wet(0, 1), 1);
        CHECK.due("wet(1, 0) of none", x.wet(1, 0), -2);
        for (int h = 0; h < 6; h++) {
            x.horse(0, 10 * h + h + 1, 1, 0);
        }
        CHECK.due("wet(63, 0) of six in a row", x.wet(63, 0), 1);
        CHECK.due("wet(63, 1) of six in a row", x.wet(63, 1), 6);
        CHECK.due("wet(64, 0) of six", x.wet(64, 0), -2);
        CHECK.due("a seventh", x.horse(0, 60, 1, 0), 6);
        CHECK.due("wet(64, 0) of seven in a ring", x.wet(64, 0), 1);
        CHECK.due("wet(64, 1) of seven in a ring", x.wet(64, 1), 60);
        CHECK.due("wet(127, 0): never all of a ring", x.wet(127, 0), 0);
        CHECK.due("wet(127, 1): never all of a ring", x.wet(127, 1), -1);
        CHECK.due("wet(126, 1)", x.wet(126, 1), 10);
        CHECK.due("wet(128, 0)", x.wet(128, 0), -2);
        int found = 0;
        for (int set = 0; set < 128; set++) {
            found += x.wet(set, 0);
        }
        CHECK.due("WAYS of all sets", found, 42);
    }

    /** whence and laws take 7 numbers of any sort, and no other size. */
    private static void eachSize() {
        HorsesOwnWays x = new HorsesOwnWays();
        for (int sort = 0; sort < 3; sort++) {
            for (int n = 0; n <= 40; n++) {
                x.sheet(2, sort, n);
                CHECK.due("whence of " + n, x.whence(2), n == 7 ? 0 : -2);
                CHECK.due("laws of " + n, x.laws(2, 0), n == 7 ? 0 : -2);
                CHECK.due("laws of " + n + ", no PLACE", x.laws(2, 7), n == 7 ? -5 : -2);
            }
            Check.fill(x, 2, sort, 90, 60, 30, 0, 30, 60, 90);
            for (int i = 0; i < 7; i++) {
                int[] soon = {90, 60, 30, 0, 30, 60, 90};
                for (int more = -1; more <= 1; more++) {
                    x.cell(2, i, soon[i] + more);
                    CHECK.due("whence where number " + i + " is " + more + " more", x.whence(2), more == 0 ? 8 : 0);
                    CHECK.due("laws where number " + i + " is " + more + " more", x.laws(2, 3), more == 0 ? 1 : 0);
                }
                x.cell(2, i, soon[i]);
            }
        }
        for (int a = 0; a < 7; a++) {
            x.film(1, a);
            CHECK.due("whence of the film from " + a, x.whence(1), 1 << a);
            for (int b = 0; b < 7; b++) {
                CHECK.due("laws of the film from " + a, x.laws(1, b), a == b ? 1 : 0);
            }
        }
        for (int t = 1; t < 6; t++) {
            Check.lawAgain(x);
        }
        CHECK.due("laws of six TEXTS", x.laws(1, 6), 63);
        CHECK.due("THE LAW then", x.count(3), 0);
    }

    /** A SHEET truly becomes what a film shows: 7 ints, and they stay when the WALKS don't. */
    private static void filmIsOfThatTime() {
        for (int sort = -1; sort < 3; sort++) {
            for (int size : new int[] {0, 7, 40}) {
                HorsesOwnWays x = new HorsesOwnWays();
                x.path(0, 6, 999);
                x.path(5, 6, 999);
                x.sheet(3, sort, size);
                CHECK.due("film", x.film(3, 6), 7);
                CHECK.due("its size, 7", x.copy(3, 7, 3, 7, 0), 0);
                CHECK.due("its size, not 8", x.copy(3, 8, 3, 8, 0), -12);
                CHECK.due("its sort", x.horsesBy(3, 2, 0, 0), 0);
                CHECK.due("whence", x.whence(3), 64);
                x.path(0, 6, 1);
                CHECK.due("whence, no longer so", x.whence(3), 0);
            }
        }
    }
}
