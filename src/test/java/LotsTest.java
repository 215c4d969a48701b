/** Promises 33 to 36: drawn, mean, image, back. */
public final class LotsTest {
    private static final Check CHECK = new Check("years by lot");

    public static void main(String[] args) {
        drawn();
        mean();
        image();
        back();
        CHECK.finish();
    }

    private static void drawn() {
        HorsesOwnWays x = new HorsesOwnWays();
        CHECK.due("drawn(0) of none", x.drawn(0), 0);
        Check.textOf(x, "out 1;home 1;dies told;");
        x.force(1);
        // SEED 0: 48271, 182605794: 71, 94 of a hundred
        x.horse(0, 1, 71, 0);
        x.horse(0, 1, 94, 0);
        CHECK.due("drawn(0): no less", x.drawn(0), 3);
        HorsesOwnWays y = new HorsesOwnWays();
        Check.textOf(y, "out 1;home 1;dies told;");
        y.force(1);
        y.horse(0, 1, 72, 0);
        y.horse(0, 1, 95, 0);
        CHECK.due("drawn(0): less", y.drawn(0), 0);
        // SEED 99999: 100000 times 48271 modulo 2147483647 is 532132706
        CHECK.due("drawn(99999)", y.drawn(99999) & 1, 0);
        CHECK.due("drawn(100000)", y.drawn(100000), -2);
        CHECK.due("drawn(-1)", y.drawn(-1), -2);
        HorsesOwnWays z = new HorsesOwnWays();
        z.horse(0, 1, 1, 0);
        Check.textOf(z, "out 1;home 1;dies 100;");
        Check.textOf(z, "out 1;home 1;dies 6;");
        Check.textOf(z, "out 1;home 1;dies 7;");
        CHECK.due("drawn of one that never dies", z.drawn(5), 1);
        z.force(1);
        CHECK.due("drawn of one that always dies", z.drawn(5), 0);
        z.force(2);
        CHECK.due("drawn(99999): 6 is no less than 6", z.drawn(99999), 1);
        z.force(3);
        CHECK.due("drawn(99999): 6 is less than 7", z.drawn(99999), 0);
    }

    private static void mean() {
        HorsesOwnWays x = new HorsesOwnWays();
        CHECK.due("mean(0, 6, 0, 1, 0) of none", x.mean(0, 6, 0, 1, 0), 180);
        CHECK.due("mean(3, 3, 0, 30, 1)", x.mean(3, 3, 0, 30, 1), 1);
        x.horse(0, 6, 10, 0);
        Check.textOf(x, "out told;home 1;dies 71;");
        Check.textOf(x, "out told;home 1;dies 72;");
        x.force(1);
        // first LOTS of SEED 0, 1, 2, 3: 71, 42, 13, 84 of a hundred
        CHECK.due("mean(0, 6, 0, 1, 0)", x.mean(0, 6, 0, 1, 0), 10);
        CHECK.due("mean(0, 6, 0, 2, 0)", x.mean(0, 6, 0, 2, 0), 95);
        CHECK.due("mean(0, 6, 0, 2, 1)", x.mean(0, 6, 0, 2, 1), 1);
        CHECK.due("mean(0, 6, 0, 3, 0)", x.mean(0, 6, 0, 3, 0), 370);
        CHECK.due("mean(0, 6, 0, 3, 1)", x.mean(0, 6, 0, 3, 1), 3);
        CHECK.due("mean(0, 6, 0, 4, 0)", x.mean(0, 6, 0, 4, 0), 95);
        CHECK.due("mean(0, 6, 1, 2, 0)", x.mean(0, 6, 1, 2, 0), 180);
        x.force(2);
        CHECK.due("mean(0, 6, 0, 4, 0) then", x.mean(0, 6, 0, 4, 0), 275);
        CHECK.due("mean(0, 6, 0, 4, 1) then", x.mean(0, 6, 0, 4, 1), 2);
        Check.textOf(x, "out told;home 1;dies 20;");
        x.force(3);
        // SEED 99999 draws 6, SEED 100000 draws 77 of a hundred
        CHECK.due("mean(0, 6, 99999, 2, 0)", x.mean(0, 6, 99999, 2, 0), 95);
        int[][] wrong = {{7, 0, 0, 1, 0}, {0, -1, 0, 1, 0}, {0, 6, -1, 1, 0}, {0, 6, 100000, 1, 0}, {0, 6, 0, 0, 0},
                {0, 6, 0, 31, 0}, {0, 6, 0, 1, 2}, {0, 6, 0, 1, -1}};
        for (int[] w : wrong) {
            CHECK.due("mean of " + java.util.Arrays.toString(w), x.mean(w[0], w[1], w[2], w[3], w[4]),
                    HorsesOwnWays.NO);
        }
    }

    private static void image() {
        HorsesOwnWays x = new HorsesOwnWays();
        CHECK.due("image() of none", x.image(), 0);
        x.horse(0, 1, 1, 0);
        x.horse(0, 1, 1, 0);
        CHECK.due("image() of two", x.image(), 2);
        x.horse(0, 1, 1, 0);
        CHECK.due("back() to the last one", x.back(), 2);
        for (int h = 2; h < 7; h++) {
            x.horse(0, 1, 1, 0);
        }
        x.stand(6, 77);
        CHECK.due("image() of seven", x.image(), 7);
        x.stand(6, 78);
        CHECK.due("back() to seven", x.back(), 7);
        CHECK.due("told(6, 5) then", x.told(6, 5), 77);
    }

    private static void back() {
        HorsesOwnWays x = new HorsesOwnWays();
        CHECK.due("back() to none", x.back(), -3);
        Check.textOf(x, "out far+1;home 1;dies 0;");
        x.horse(0, 6, 10, 0);
        x.ride(0, 6);
        x.stand(0, 33);
        x.path(0, 6, 100);
        x.force(1);
        x.image();
        x.horse(0, 12, 10, 0);
        x.stand(1, 44);
        x.ride(6, 0);
        x.stand(0, 55);
        x.path(0, 6, 500);
        x.path(1, 2, 600);
        x.force(0);
        Check.fill(x, 0, 2, 1, 2, 3);
        Check.textOf(x, "out 2;home 2;dies 2;");
        Check.feedAll(x, "out");
        CHECK.due("back()", x.back(), 1);
        CHECK.due("count(0)", x.count(0), 1);
        CHECK.due("count(1)", x.count(1), 1);
        CHECK.due("count(2), not kept", x.count(2), 3);
        CHECK.due("count(3)", x.count(3), 1);
        CHECK.due("count(4), not kept", x.count(4), 3);
        CHECK.due("told(0, 5)", x.told(0, 5), 33);
        CHECK.due("told(0, 6) by the far that is again", x.told(0, 6), 101);
        CHECK.due("told(1, 0)", x.told(1, 0), -5);
        CHECK.due("pathTold(0, 6)", x.pathTold(0, 6), 100);
        CHECK.due("pathTold(6, 0)", x.pathTold(6, 0), 100);
        CHECK.due("pathTold(2, 1)", x.pathTold(2, 1), 30);
        CHECK.due("cell(0, 2, 0), not kept", x.cell(0, 2, 0), 1);
        CHECK.due("rideTold(1, 0)", x.rideTold(1, 0), -5);
        CHECK.due("horse(1, 34, 5, 6) anew", x.horse(1, 34, 5, 6), 1);
        CHECK.due("its READY", x.told(1, 5), 0);
        x.stand(0, 66);
        CHECK.due("back() once more", x.back(), 1);
        CHECK.due("told(0, 5) once more", x.told(0, 5), 33);
    }
}
