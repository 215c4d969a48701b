import java.math.BigInteger;

/** Promises 33 to 36: drawn, mean, image, back. */
public final class LotsTest {
    private static final Check CHECK = new Check("years by lot");

    public static void main(String[] args) {
        drawn();
        mean();
        lots();
        lotsWrap();
        meansOfAll();
        lowestTerms();
        image();
        back();
        backToNone();
        backToAll();
        backBringsNothingElse();
        CHECK.finish();
    }

    private static void drawn() {
        HorsesOwnWays x = new HorsesOwnWays();
        CHECK.due("drawn(0) of none", x.drawn(0), 0);
        Check.textOf(x, "out 1;home 1;dies told;");
        x.force(1);
        // SEED 0: 48271, 182605794: 71, 94 of a hundred
        x.horse(0, 1, 71, 0);
        x.horse(0, 1, 94, 0);
        CHECK.due("drawn(0): no less", x.drawn(0), 3);
        HorsesOwnWays y = new HorsesOwnWays();
        Check.textOf(y, "out 1;home 1;dies told;");
        y.force(1);
        y.horse(0, 1, 72, 0);
        y.horse(0, 1, 95, 0);
        CHECK.due("drawn(0): less", y.drawn(0), 0);
        // SEED 99999: 100000 times 48271 modulo 2147483647 is 532132706
        CHECK.due("drawn(99999)", y.drawn(99999) & 1, 0);
        CHECK.due("drawn(100000)", y.drawn(100000), -2);
        CHECK.due("drawn(-1)", y.drawn(-1), -2);
        HorsesOwnWays z = new HorsesOwnWays();
        z.horse(0, 1, 1, 0);
        Check.textOf(z, "out 1;home 1;dies 100;");
        Check.textOf(z, "out 1;home 1;dies 6;");
        Check.textOf(z, "out 1;home 1;dies 7;");
        CHECK.due("drawn of one that never dies", z.drawn(5), 1);
        z.force(1);
        CHECK.due("drawn of one that always dies", z.drawn(5), 0);
        z.force(2);
        CHECK.due("drawn(99999): 6 is no less than 6", z.drawn(99999), 1);
        z.force(3);
        CHECK.due("drawn(99999): 6 is less than 7", z.drawn(99999), 0);
    }

    private static void mean() {
        HorsesOwnWays x = new HorsesOwnWays();
        CHECK.due("mean(0, 6, 0, 1, 0) of none", x.mean(0, 6, 0, 1, 0), 180);
        CHECK.due("mean(3, 3, 0, 30, 1)", x.mean(3, 3, 0, 30, 1), 1);
        x.horse(0, 6, 10, 0);
        Check.textOf(x, "out told;home 1;dies 71;");
        Check.textOf(x, "out told;home 1;dies 72;");
        x.force(1);
        // first LOTS of SEED 0, 1, 2, 3: 71, 42, 13, 84 of a hundred
        CHECK.due("mean(0, 6, 0, 1, 0)", x.mean(0, 6, 0, 1, 0), 10);
        CHECK.due("mean(0, 6, 0, 2, 0)", x.mean(0, 6, 0, 2, 0), 95);
        CHECK.due("mean(0, 6, 0, 2, 1)", x.mean(0, 6, 0, 2, 1), 1);
        CHECK.due("mean(0, 6, 0, 3, 0)", x.mean(0, 6, 0, 3, 0), 370);
        CHECK.due("mean(0, 6, 0, 3, 1)", x.mean(0, 6, 0, 3, 1), 3);
        CHECK.due("mean(0, 6, 0, 4, 0)", x.mean(0, 6, 0, 4, 0), 95);
        CHECK.due("mean(0, 6, 1, 2, 0)", x.mean(0, 6, 1, 2, 0), 180);
        x.force(2);
        CHECK.due("mean(0, 6, 0, 4, 0) then", x.mean(0, 6, 0, 4, 0), 275);
        CHECK.due("mean(0, 6, 0, 4, 1) then", x.mean(0, 6, 0, 4, 1), 2);
        Check.textOf(x, "out told;home 1;dies 20;");
        x.force(3);
        // SEED 99999 draws 6, SEED 100000 draws 77 of a hundred
        CHECK.due("mean(0, 6, 99999, 2, 0)", x.mean(0, 6, 99999, 2, 0), 95);
        int[][] wrong = {{7, 0, 0, 1, 0}, {0, -1, 0, 1, 0}, {0, 6, -1, 1, 0}, {0, 6, 100000, 1, 0}, {0, 6, 0, 0, 0},
                {0, 6, 0, 31, 0}, {0, 6, 0, 1, 2}, {0, 6, 0, 1, -1}};
        for (int[] w : wrong) {
            CHECK.due("mean of " + java.util.Arrays.toString(w), x.mean(w[0], w[1], w[2], w[3], w[4]),
                    HorsesOwnWays.NO);
        }
    }

    private static void image() {
        HorsesOwnWays x = new HorsesOwnWays();
        CHECK.due("image() of none", x.image(), 0);
        x.horse(0, 1, 1, 0);
        x.horse(0, 1, 1, 0);
        CHECK.due("image() of two", x.image(), 2);
        x.horse(0, 1, 1, 0);
        CHECK.due("back() to the last one", x.back(), 2);
        for (int h = 2; h < 7; h++) {
            x.horse(0, 1, 1, 0);
        }
        x.stand(6, 77);
        CHECK.due("image() of seven", x.image(), 7);
        x.stand(6, 78);
        CHECK.due("back() to seven", x.back(), 7);
        CHECK.due("told(6, 5) then", x.told(6, 5), 77);
    }

    private static void back() {
        HorsesOwnWays x = new HorsesOwnWays();
        CHECK.due("back() to none", x.back(), -3);
        Check.textOf(x, "out far+1;home 1;dies 0;");
        x.horse(0, 6, 10, 0);
        x.ride(0, 6);
        x.stand(0, 33);
        x.path(0, 6, 100);
        x.force(1);
        x.image();
        x.horse(0, 12, 10, 0);
        x.stand(1, 44);
        x.ride(6, 0);
        x.stand(0, 55);
        x.path(0, 6, 500);
        x.path(1, 2, 600);
        x.force(0);
        Check.fill(x, 0, 2, 1, 2, 3);
        Check.textOf(x, "out 2;home 2;dies 2;");
        Check.feedAll(x, "out");
        CHECK.due("back()", x.back(), 1);
        CHECK.due("count(0)", x.count(0), 1);
        CHECK.due("count(1)", x.count(1), 1);
        CHECK.due("count(2), not kept", x.count(2), 3);
        CHECK.due("count(3)", x.count(3), 1);
        CHECK.due("count(4), not kept", x.count(4), 3);
        CHECK.due("told(0, 5)", x.told(0, 5), 33);
        CHECK.due("told(0, 6) by the far that is again", x.told(0, 6), 101);
        CHECK.due("told(1, 0)", x.told(1, 0), -5);
        CHECK.due("pathTold(0, 6)", x.pathTold(0, 6), 100);
        CHECK.due("pathTold(6, 0)", x.pathTold(6, 0), 100);
        CHECK.due("pathTold(2, 1)", x.pathTold(2, 1), 30);
        CHECK.due("cell(0, 2, 0), not kept", x.cell(0, 2, 0), 1);
        CHECK.due("rideTold(1, 0)", x.rideTold(1, 0), -5);
        CHECK.due("horse(1, 34, 5, 6) anew", x.horse(1, 34, 5, 6), 1);
        CHECK.due("its READY", x.told(1, 5), 0);
        x.stand(0, 66);
        CHECK.due("back() once more", x.back(), 1);
        CHECK.due("told(0, 5) once more", x.told(0, 5), 33);
    }

    /** LOT number h (from 0) of a SEED: (SEED and 1) times 48271 to the power of h and 1. */
    private static int lot(int seed, int h) {
        BigInteger modulus = BigInteger.valueOf(2147483647L);
        return BigInteger.valueOf(48271).modPow(BigInteger.valueOf(h + 1), modulus)
                .multiply(BigInteger.valueOf(seed + 1L)).mod(modulus).mod(BigInteger.valueOf(100)).intValue();
    }

    private static HorsesOwnWays dyingAt(int... dies) {
        HorsesOwnWays x = new HorsesOwnWays();
        Check.textOf(x, "out from+2;home 1;dies told-1;");
        x.force(1);
        for (int h = 0; h < dies.length; h++) {
            x.horse(0, 10 * h + (h + 1) % 7, dies[h] + 1, 0);
        }
        return x;
    }

    /** A LOT for each HORSE, by numbers: it lives at its LOT, and dies one above it. */
    private static void lots() {
        for (int seed : new int[] {0, 1, 2, 99, 4999, 44487, 44488, 50000, 99998, 99999}) {
            for (int h = 0; h < 7; h++) {
                int[] dies = new int[7];
                for (int i = 0; i < 7; i++) {
                    dies[i] = lot(seed, i) + (i == h ? 1 : 0);
                }
                CHECK.due("drawn(" + seed + "), HORSE " + h + " above its LOT", dyingAt(dies).drawn(seed), 127 & ~(1 << h));
                dies[h]--;
                CHECK.due("drawn(" + seed + "), all at their LOTS", dyingAt(dies).drawn(seed), 127);
            }
        }
        CHECK.due("drawn(0) where none ever dies", dyingAt(0, 0, 0, 0, 0, 0, 0).drawn(0), 127);
        CHECK.due("drawn(0) where each always dies", dyingAt(100, 100, 100, 100, 100, 100, 100).drawn(0), 0);
        CHECK.due("drawn(99999) where some do", dyingAt(100, 0, 100, 0, 100, 0, 100).drawn(99999), 42);
    }

    /** 44488 times 48271 is 2147480248, 44489 times 48271 passes the modulus and is 44872. */
    private static void lotsWrap() {
        CHECK.due("drawn(44487) at 48", dyingAt(48).drawn(44487), 1);
        CHECK.due("drawn(44487) at 49", dyingAt(49).drawn(44487), 0);
        CHECK.due("drawn(44488) at 72", dyingAt(72).drawn(44488), 1);
        CHECK.due("drawn(44488) at 73", dyingAt(73).drawn(44488), 0);
    }

    /** 1 .. 30 seeds from 99999 on pass 99999; from 0 on they don't. */
    private static void meansOfAll() {
        for (int seed : new int[] {0, 44480, 99970, 99999}) {
            for (int seeds = 1; seeds <= 30; seeds++) {
                HorsesOwnWays x = dyingAt(50);
                int sum = 0;
                for (int i = 0; i < seeds; i++) {
                    sum += lot(seed + i, 0) >= 50 ? 2 : 30;
                }
                int common = BigInteger.valueOf(sum).gcd(BigInteger.valueOf(seeds)).intValue();
                CHECK.due("mean(0, 1, " + seed + ", " + seeds + ", 0)", x.mean(0, 1, seed, seeds, 0), sum / common);
                CHECK.due("mean(0, 1, " + seed + ", " + seeds + ", 1)", x.mean(0, 1, seed, seeds, 1), seeds / common);
            }
        }
    }

    private static void lowestTerms() {
        HorsesOwnWays x = new HorsesOwnWays();
        for (int seeds = 1; seeds <= 30; seeds++) {
            CHECK.due("mean of 0, above the line", x.mean(4, 4, 5, seeds, 0), 0);
            CHECK.due("mean of 0, below the line", x.mean(4, 4, 5, seeds, 1), 1);
            CHECK.due("mean of 180, above the line", x.mean(0, 6, 5, seeds, 0), 180);
            CHECK.due("mean of 180, below the line", x.mean(0, 6, 5, seeds, 1), 1);
        }
    }

    private static void backToNone() {
        HorsesOwnWays x = new HorsesOwnWays();
        CHECK.due("image() of none", x.image(), 0);
        CHECK.due("back() at once", x.back(), 0);
        for (int h = 0; h < 7; h++) {
            x.horse(h % 6, 10 * h + (h + 1) % 7, 9, 9);
            x.stand(h, 5);
        }
        for (int r = 0; r < 4; r++) {
            x.ride(r, 6);
        }
        CHECK.due("back() from all", x.back(), 0);
        CHECK.due("HORSES then", x.count(0), 0);
        CHECK.due("RIDES then", x.count(1), 0);
        CHECK.due("at(0) then", x.at(0), 0);
        CHECK.due("all() then", x.all(), 0);
        CHECK.due("wet(1, 0) then", x.wet(1, 0), -2);
        CHECK.due("soonest(0, 1, 1) then", x.soonest(0, 1, 1), 0);
        CHECK.due("taken(4, 0) then", x.taken(4, 0), -11);
        CHECK.due("taken(0, 6) then", x.taken(0, 6), -11);
        CHECK.due("horse then", x.horse(0, 65, 4, 3), 0);
        CHECK.due("its READY", x.told(0, 5), 0);
        CHECK.due("ride then", x.ride(5, 4), 0);
        CHECK.due("rideTold(0, 0) then", x.rideTold(0, 0), 5);
        for (int h = 1; h < 7; h++) {
            CHECK.due("as many as ever", x.horse(0, 65, 4, 3), h);
        }
        CHECK.due("and no more", x.horse(0, 65, 4, 3), -4);
        CHECK.due("teach(0) of 7 HORSES", x.teach(0), -3);
        CHECK.due("back() again", x.back(), 0);
        CHECK.due("teach(0) then", x.teach(0), -1);
    }

    private static void backToAll() {
        HorsesOwnWays x = States.made(States.FULL);
        CHECK.due("image() of 7", x.image(), 7);
        for (int h = 0; h < 7; h++) {
            x.stand(h, 900 + h);
        }
        for (int a = 0; a < 7; a++) {
            for (int b = 0; b < a; b++) {
                x.path(b, a, 1);
            }
        }
        x.force(3);
        CHECK.due("back() to 7", x.back(), 7);
        CHECK.due("RIDES then", x.count(1), 4);
        CHECK.due("THE LAW then", x.count(3), 5);
        HorsesOwnWays y = States.made(States.FULL);
        for (int h = 0; h < 7; h++) {
            for (int what = 0; what < 8; what++) {
                CHECK.due("told(" + h + ", " + what + ") then", x.told(h, what), y.told(h, what));
            }
            for (int p = 0; p < 7; p++) {
                CHECK.due("pathTold(" + h + ", " + p + ") then", x.pathTold(h, p), y.pathTold(h, p));
            }
        }
    }

    /** TEXTS, THE TAPE and SHEETS are not kept: they stay as they are. */
    private static void backBringsNothingElse() {
        HorsesOwnWays x = new HorsesOwnWays();
        x.horse(0, 6, 20, 3);
        Check.feedAll(x, "out ");
        Check.fill(x, 1, 2, 5, 5);
        x.image();
        Check.feedAll(x, "6;home 7;dies 8;");
        CHECK.due("back() ahead of text", x.back(), 1);
        CHECK.due("bytes then", x.count(4), 20);
        CHECK.due("text() then", x.text(), 1);
        x.force(1);
        x.sheet(1, -1, 0);
        x.film(0, 3);
        CHECK.due("back() behind text", x.back(), 1);
        CHECK.due("TEXTS then", x.count(2), 2);
        CHECK.due("THE LAW then", x.count(3), 0);
        CHECK.due("told(0, 6) then", x.told(0, 6), 20);
        CHECK.due("SHEET 1 then", x.cell(1, 0, 1), -11);
        CHECK.due("SHEET 0 then", x.whence(0), 8);
        CHECK.due("force(1) then", x.force(1), 0);
        CHECK.due("told(0, 6) by it", x.told(0, 6), 6);
    }
}
