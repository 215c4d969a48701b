/** Promises 28 to 32: judge, wet, whence, laws, film. */
public final class ToldRidesTest {
    private static final Check CHECK = new Check("told rides");

    public static void main(String[] args) {
        judge();
        judgeFaults();
        wet();
        whence();
        laws();
        film();
        CHECK.finish();
    }

    private static void told(HorsesOwnWays x, int a, int first, int minute, int place, int... pieces) {
        Check.fill(x, 0, 2, pieces);
        String call = "judge(0, " + a + ", ..) of " + java.util.Arrays.toString(pieces);
        CHECK.due(call + " 0", x.judge(0, a, 0), first);
        CHECK.due(call + " 1", x.judge(0, a, 1), minute);
        CHECK.due(call + " 2", x.judge(0, a, 2), place);
    }

    private static void judge() {
        HorsesOwnWays x = new HorsesOwnWays();
        x.horse(0, 16, 10, 0);
        x.horse(1, 64, 5, 0);
        x.stand(0, 100);
        told(x, 3, -1, 0, 3);
        told(x, 0, -1, 115, 4, 71, 6, 14);
        told(x, 0, -1, 145, 3, 71, 6, 14, 73);
        told(x, 4, -1, 5, 6, 16);
        told(x, 0, -1, 360, 0, 76, 70);
        HorsesOwnWays y = new HorsesOwnWays();
        y.horse(0, 30, 10, 0);
        told(y, 3, -1, 10, 0, 0);
        Check.fill(x, 1, 0, 71, 6);
        CHECK.due("judge of bytes", x.judge(1, 0, 1), 110);
        Check.fill(x, 1, 1, 71, 6);
        CHECK.due("judge of shorts", x.judge(1, 0, 1), 110);
        x.sheet(1, 2, 40);
        CHECK.due("judge of a whole SHEET of 0", x.judge(1, 0, 0), 0);
    }

    private static void judgeFaults() {
        HorsesOwnWays x = new HorsesOwnWays();
        x.horse(0, 16, 10, 0);
        x.horse(1, 64, 5, 0);
        x.horse(3, 25, 7, 0);
        told(x, 0, 1, 30, 1, 71, 71);
        told(x, 0, 0, 0, 0, 6);
        told(x, 1, 0, 0, 1, 5);
        told(x, 0, 1, 30, 1, 71, 77);
        told(x, 0, 1, 30, 1, 71, 7);
        told(x, 0, 1, 30, 1, 71, -1);
        told(x, 0, 1, 30, 1, 71, 30);
        told(x, 0, 1, 30, 1, 71, 80);
        told(x, 0, 1, 30, 1, 71, 86);
        told(x, 0, 1, 30, 1, 71, Integer.MAX_VALUE);
        told(x, 0, 1, 30, 1, 71, Integer.MIN_VALUE);
        told(x, 6, 1, 5, 4, 14, 16);
        told(x, 4, 2, 155, 1, 16, 71, 16);
        told(x, 2, 0, 0, 2, 25);
        told(x, 2, -1, 7, 6, 26);
        CHECK.due("judge(4, 0, 0)", x.judge(4, 0, 0), -2);
        CHECK.due("judge(-1, 0, 0)", x.judge(-1, 0, 0), -2);
        CHECK.due("judge(1, 7, 3): missing first", x.judge(1, 7, 3), -11);
        CHECK.due("judge(0, 7, 3), -5 first", x.judge(0, 7, 3), -5);
        CHECK.due("judge(0, -1, 0)", x.judge(0, -1, 0), -5);
        CHECK.due("judge(0, 0, 3)", x.judge(0, 0, 3), -7);
        CHECK.due("judge(0, 0, -1)", x.judge(0, 0, -1), -7);
    }

    private static void wet() {
        HorsesOwnWays x = new HorsesOwnWays();
        x.horse(0, 50, 1, 0);
        x.horse(0, 1, 1, 0);
        // by 0 alone: 3 .. 6 to 0; by 1 alone: 0 to each other one; by both: 4 .. 6 to 1, 5 and 6 to 2
        CHECK.due("wet(1, 0)", x.wet(1, 0), 4);
        CHECK.due("wet(1, 1)", x.wet(1, 1), 30);
        CHECK.due("wet(2, 0)", x.wet(2, 0), 6);
        CHECK.due("wet(2, 1)", x.wet(2, 1), 1);
        CHECK.due("wet(3, 0)", x.wet(3, 0), 5);
        CHECK.due("wet(3, 1)", x.wet(3, 1), 41);
        CHECK.due("wet(0, 0)", x.wet(0, 0), 27);
        CHECK.due("wet(0, 1)", x.wet(0, 1), 10);
        CHECK.due("wet(4, 0)", x.wet(4, 0), -2);
        CHECK.due("wet(-1, 0)", x.wet(-1, 0), -2);
        CHECK.due("wet(0, 2)", x.wet(0, 2), -2);
        CHECK.due("wet(0, -1)", x.wet(0, -1), -2);
        HorsesOwnWays y = new HorsesOwnWays();
        y.horse(0, 1, 900, 0);
        CHECK.due("wet(1, 0): none", y.wet(1, 0), 0);
        CHECK.due("wet(1, 1): none", y.wet(1, 1), -1);
    }

    private static void whence() {
        HorsesOwnWays x = new HorsesOwnWays();
        Check.fill(x, 0, 2, 60, 30, 0, 30, 60, 90, 120);
        CHECK.due("whence(0)", x.whence(0), 4);
        x.cell(0, 6, 121);
        CHECK.due("whence(0), one other", x.whence(0), 0);
        x.cell(0, 6, 120);
        x.cell(0, 0, 61);
        CHECK.due("whence(0), the first one other", x.whence(0), 0);
        Check.fill(x, 0, 1, 0, 30, 60, 90, 120, 150, 180);
        CHECK.due("whence(0) of shorts", x.whence(0), 1);
        Check.fill(x, 0, 0, 90, 60, 30, 0, 30, 60, 90);
        CHECK.due("whence(0) of bytes", x.whence(0), 8);
        x.sheet(0, 2, 6);
        CHECK.due("whence(0) of 6", x.whence(0), -2);
        x.sheet(0, 2, 8);
        CHECK.due("whence(0) of 8", x.whence(0), -2);
        CHECK.due("whence(1)", x.whence(1), -11);
        CHECK.due("whence(4)", x.whence(4), -2);
        CHECK.due("whence(-1)", x.whence(-1), -2);
    }

    private static void laws() {
        HorsesOwnWays x = new HorsesOwnWays();
        x.horse(0, 6, 20, 3);
        Check.textOf(x, "out 20;home 1;dies 0;");
        Check.textOf(x, "out 21;home 1;dies 0;");
        Check.textOf(x, "out told;home 1;dies 0;");
        x.force(2);
        Check.fill(x, 3, 2, 0, 30, 60, 90, 80, 50, 20);
        CHECK.due("laws(3, 0)", x.laws(3, 0), 11);
        CHECK.due("count(3) then", x.count(3), 2);
        CHECK.due("told(0, 6) then", x.told(0, 6), 21);
        CHECK.due("asks(2, 0) then", x.asks(2, 0), 0);
        CHECK.due("laws(3, 1)", x.laws(3, 1), 0);
        x.cell(3, 6, 0);
        CHECK.due("laws(3, 0) of another", x.laws(3, 0), 0);
        CHECK.due("laws(3, 7)", x.laws(3, 7), -5);
        CHECK.due("laws(3, -1)", x.laws(3, -1), -5);
        x.sheet(3, 2, 8);
        CHECK.due("laws(3, 7): BAD first", x.laws(3, 7), -2);
        CHECK.due("laws(2, 7): missing first", x.laws(2, 7), -11);
        CHECK.due("laws(4, 7): BAD first", x.laws(4, 7), -2);
    }

    private static void film() {
        HorsesOwnWays x = new HorsesOwnWays();
        x.horse(0, 16, 10, 0);
        CHECK.due("film(2, 1) of a missing one", x.film(2, 1), 7);
        CHECK.due("whence(2) then", x.whence(2), 2);
        x.sheet(2, 0, 3);
        CHECK.due("film(2, 5) of bytes", x.film(2, 5), 7);
        CHECK.due("whence(2) then", x.whence(2), 32);
        CHECK.due("cell(2, 7, 0): 7 of them", x.cell(2, 7, 0), -12);
        x.sheet(1, 2, 1);
        CHECK.due("copy: ints", x.copy(2, 0, 1, 0, 1), 1);
        CHECK.due("film(2, 7)", x.film(2, 7), -5);
        CHECK.due("film(2, -1)", x.film(2, -1), -5);
        CHECK.due("whence(2) then", x.whence(2), 32);
        CHECK.due("film(4, 7): BAD first", x.film(4, 7), -2);
        CHECK.due("film(-1, 0)", x.film(-1, 0), -2);
        x.path(0, 1, 1);
        CHECK.due("film(0, 0)", x.film(0, 0), 7);
        x.path(0, 1, 2);
        CHECK.due("whence(0): no longer", x.whence(0), 0);
    }
}
