/** Promises 24 to 27: lost, needed, again, doctor. */
public final class DyingTest {
    private static final Check CHECK = new Check("horses that die");

    public static void main(String[] args) {
        lost();
        needed();
        again();
        doctor();
        lostIsCut();
        lostAtItsBounds();
        neededOfAll();
        againBeyondTheBounds();
        doctorAnywhere();
        CHECK.finish();
    }

    private static void lost() {
        HorsesOwnWays x = new HorsesOwnWays();
        CHECK.due("lost(0, 6, 179) without HORSES", x.lost(0, 6, 179), 1000000000L);
        CHECK.due("lost(0, 6, 180) without HORSES", x.lost(0, 6, 180), 0);
        x.horse(0, 6, 10, 7);
        CHECK.due("lost(0, 6, 9)", x.lost(0, 6, 9), 1000000000L);
        CHECK.due("lost(0, 6, 10)", x.lost(0, 6, 10), 70000000L);
        x.horse(0, 6, 20, 9);
        CHECK.due("lost(0, 6, 10) of two", x.lost(0, 6, 10), 70000000L);
        CHECK.due("lost(0, 6, 20) of two", x.lost(0, 6, 20), 6300000L);
        CHECK.due("lost(0, 6, 9999)", x.lost(0, 6, 9999), 0);
        CHECK.due("lost(3, 3, 0)", x.lost(3, 3, 0), 0);
        for (int h = 2; h < 7; h++) {
            x.horse(0, 6, 20, 3);
        }
        // 7, 9 and five times 3 of a hundred, cut at each: 1000000000, 70000000, 6300000, 189000, 5670, 170, 5, 0
        CHECK.due("lost(0, 6, 20) of seven, cut", x.lost(0, 6, 20), 0);
        CHECK.due("lost(0, 6, 10000)", x.lost(0, 6, 10000), HorsesOwnWays.NO);
        CHECK.due("lost(0, 6, -1)", x.lost(0, 6, -1), HorsesOwnWays.NO);
        CHECK.due("lost(0, 7, 5)", x.lost(0, 7, 5), HorsesOwnWays.NO);
        CHECK.due("lost(-1, 0, 5)", x.lost(-1, 0, 5), HorsesOwnWays.NO);
        HorsesOwnWays y = new HorsesOwnWays();
        y.horse(0, 6, 10, 7);
        Check.textOf(y, "out told;home 1;dies 500;");
        y.force(1);
        CHECK.due("lost where each dies", y.lost(0, 6, 100), 1000000000L);
    }

    private static void needed() {
        HorsesOwnWays x = new HorsesOwnWays();
        CHECK.due("needed(0, 6, 0) of none", x.needed(0, 6, 0), -1);
        CHECK.due("needed(0, 6, 1) of none", x.needed(0, 6, 1), 180);
        x.horse(0, 3, 10, 0);
        x.horse(0, 36, 10, 0);
        CHECK.due("needed(0, 6, 0): of like ones the first", x.needed(0, 6, 0), 0);
        CHECK.due("needed(0, 6, 1)", x.needed(0, 6, 1), 100);
        x.horse(0, 3, 50, 0);
        CHECK.due("needed(0, 6, 0): the greater", x.needed(0, 6, 0), 1);
        CHECK.due("needed(0, 3, 1)", x.needed(0, 3, 1), 50);
        CHECK.due("needed(6, 0, 0): none", x.needed(6, 0, 0), -1);
        CHECK.due("needed(6, 0, 1): SOON with all", x.needed(6, 0, 1), 180);
        for (int h = 3; h < 7; h++) {
            x.horse(0, 65, 1, 0);
        }
        CHECK.due("needed(6, 5, 0) of seven", x.needed(6, 5, 0), -1);
        CHECK.due("needed(0, 6, 0) of seven", x.needed(0, 6, 0), 1);
        CHECK.due("again(0, 6) of seven", x.again(0, 6), 20);
        CHECK.due("needed(0, 6, 2)", x.needed(0, 6, 2), -7);
        CHECK.due("needed(0, 6, -1)", x.needed(0, 6, -1), -7);
        CHECK.due("needed(0, 7, 2), -5 first", x.needed(0, 7, 2), -5);
        CHECK.due("needed(-1, 0, 0)", x.needed(-1, 0, 0), -5);
    }

    private static void again() {
        HorsesOwnWays x = new HorsesOwnWays();
        CHECK.due("again(0, 6) of none", x.again(0, 6), 0);
        x.horse(4, 3, 10, 2);
        x.horse(0, 36, 15, 0);
        x.horse(0, 16, 100, 0);
        CHECK.due("again(0, 6): 12 and 22, 15 and 15", x.again(0, 6), 34);
        CHECK.due("again(3, 6)", x.again(3, 6), 30);
        CHECK.due("again(6, 0)", x.again(6, 0), 0);
        CHECK.due("again(3, 3)", x.again(3, 3), 0);
        CHECK.due("again(0, 7)", x.again(0, 7), -5);
        CHECK.due("again(-1, 0)", x.again(-1, 0), -5);
    }

    private static void doctor() {
        HorsesOwnWays x = new HorsesOwnWays();
        CHECK.due("doctor(0)", x.doctor(0), 90);
        CHECK.due("doctor(1)", x.doctor(1), 3);
        x.horse(0, 16, 10, 0);
        // from 1: 0 30, 2 30, 3 60, 4 70, 5 40, 6 10
        CHECK.due("doctor(0) then", x.doctor(0), 70);
        CHECK.due("doctor(1) then", x.doctor(1), 1);
        HorsesOwnWays y = new HorsesOwnWays();
        for (int a = 0; a < 7; a++) {
            for (int b = 0; b < a; b++) {
                y.path(a, b, 50);
            }
        }
        CHECK.due("doctor(1), all alike", y.doctor(1), 0);
        y.path(0, 3, 80);
        y.path(0, 4, 70);
        y.path(0, 5, 70);
        y.path(0, 6, 70);
        y.path(1, 2, 60);
        // from 0: 80; from 1, 2: 60; from 3: 80 to 0; from 4, 5, 6: 70 to 0
        CHECK.due("doctor(0)", y.doctor(0), 60);
        CHECK.due("doctor(1)", y.doctor(1), 1);
        y.path(1, 2, 999);
        y.path(1, 3, 90);
        y.path(2, 3, 90);
        // from 1: 100 to 2 (by way of others), 90 to 3; from 3: 90; from 4, 5, 6: 70 to 0
        CHECK.due("doctor(0) then", y.doctor(0), 70);
        CHECK.due("doctor(1), PLACE 0 being farthest", y.doctor(1), 4);
        CHECK.due("doctor(2)", y.doctor(2), -2);
        CHECK.due("doctor(-1)", y.doctor(-1), -2);
    }

    /** Each HORSE's part is cut: 1 of a hundred dies, 1000000000, 10000000, 100000, 1000, 10, 9 (9.9), 8 (8.91). */
    private static void lostIsCut() {
        HorsesOwnWays x = new HorsesOwnWays();
        for (int h = 0; h < 4; h++) {
            x.horse(0, 6, 10, 1);
        }
        CHECK.due("lost of four", x.lost(0, 6, 10), 10);
        x.horse(0, 32, 10, 1);
        CHECK.due("lost, with one that lives or dies", x.lost(0, 6, 10), 9);
        x.horse(0, 32, 10, 1);
        CHECK.due("lost, with two that live or die", x.lost(0, 6, 10), 8);
        x.horse(0, 6, 10, 1);
        CHECK.due("lost, with a fifth behind them", x.lost(0, 6, 10), 0);
        CHECK.due("lost below OUT: all sets, each cut", x.lost(0, 6, 9), wholeCut(new int[] {1, 1, 1, 1, 1, 1, 1}));
        HorsesOwnWays y = States.made(States.FULL);
        int[] dies = new int[7];
        for (int h = 0; h < 7; h++) {
            dies[h] = y.asks(2, h);
        }
        CHECK.due("lost(0, 6, 0) of all sets", y.lost(0, 6, 0), wholeCut(dies));
    }

    /** LIVES of all sets, each HORSE's part cut. */
    private static long wholeCut(int[] dies) {
        long[] parts = {1000000000L};
        for (int d : dies) {
            long[] next = new long[2 * parts.length];
            for (int i = 0; i < parts.length; i++) {
                next[2 * i] = parts[i] * (100 - d) / 100;
                next[2 * i + 1] = parts[i] * d / 100;
            }
            parts = next;
        }
        long sum = 0;
        for (long p : parts) {
            sum += p;
        }
        return sum;
    }

    /** Above minutes: not at them; dies 0 and 100 of a hundred. */
    private static void lostAtItsBounds() {
        HorsesOwnWays x = new HorsesOwnWays();
        for (int a = 0; a < 7; a++) {
            for (int b = 0; b < a; b++) {
                x.path(a, b, 999);
            }
        }
        CHECK.due("lost(0, 6, 998)", x.lost(0, 6, 998), 1000000000L);
        CHECK.due("lost(0, 6, 999)", x.lost(0, 6, 999), 0);
        CHECK.due("lost(0, 6, 1000)", x.lost(0, 6, 1000), 0);
        CHECK.due("lost(0, 6, 0)", x.lost(0, 6, 0), 1000000000L);
        CHECK.due("lost(0, 6, 9999)", x.lost(0, 6, 9999), 0);
        for (int p = 0; p < 7; p++) {
            CHECK.due("lost(" + p + ", " + p + ", 0)", x.lost(p, p, 0), 0);
        }
        Check.textOf(x, "out told;home 1;dies 100;");
        x.horse(0, 6, 10, 0);
        CHECK.due("lost where none ever dies", x.lost(0, 6, 10), 0);
        CHECK.due("lost one minute ahead", x.lost(0, 6, 9), 1000000000L);
        x.force(1);
        CHECK.due("lost where each always dies", x.lost(0, 6, 998), 1000000000L);
        CHECK.due("lost where each always dies, on foot", x.lost(0, 6, 999), 0);
    }

    private static void neededOfAll() {
        HorsesOwnWays x = new HorsesOwnWays();
        for (int h = 0; h < 6; h++) {
            x.horse(0, 10 * h + h + 1, 1, 0);
        }
        CHECK.due("needed(0, 6, 0) of six in a row: like ones", x.needed(0, 6, 0), 0);
        CHECK.due("needed(0, 6, 1)", x.needed(0, 6, 1), 35);
        x.path(5, 6, 32);
        CHECK.due("needed(0, 6, 0): the last one", x.needed(0, 6, 0), 5);
        CHECK.due("needed(0, 6, 1)", x.needed(0, 6, 1), 37);
        x.horse(0, 60, 1, 0);
        CHECK.due("needed(6, 0, 0): the seventh", x.needed(6, 0, 0), 6);
        CHECK.due("needed(6, 0, 1)", x.needed(6, 0, 1), 180);
        CHECK.due("needed(4, 4, 0)", x.needed(4, 4, 0), -1);
        CHECK.due("needed(4, 4, 1)", x.needed(4, 4, 1), 0);
        HorsesOwnWays y = new HorsesOwnWays();
        y.horse(0, 6, 180, 0);
        CHECK.due("needed of one as soon as on foot", y.needed(0, 6, 0), -1);
        CHECK.due("SOON then", y.needed(0, 6, 1), 180);
        HorsesOwnWays z = new HorsesOwnWays();
        z.horse(0, 6, 179, 0);
        CHECK.due("needed of one a minute sooner", z.needed(0, 6, 0), 0);
        CHECK.due("SOON then", z.needed(0, 6, 1), 180);
    }

    /** OUT and HOME of a HUNGRY may be 1008 and 2007; READY and waiting don't count. */
    private static void againBeyondTheBounds() {
        HorsesOwnWays x = new HorsesOwnWays();
        x.horse(4, 6, 170, 9);
        CHECK.due("again(0, 6) of a HUNGRY", x.again(0, 6), 179 + 349);
        Check.textOf(x, "out 1;home 9999;dies 0;");
        x.force(1);
        x.stand(0, 170);
        CHECK.due("soonest(0, 6, 0): READY at 170, OUT 10", x.soonest(0, 6, 0), 180);
        CHECK.due("again(0, 6) of a long HOME", x.again(0, 6), 10 + 2007);
        x.stand(0, 171);
        CHECK.due("again(0, 6) on foot", x.again(0, 6), 0);
        HorsesOwnWays y = new HorsesOwnWays();
        for (int h = 0; h < 6; h++) {
            y.horse(0, 10 * h + h + 1, 1 + h, 0);
        }
        y.horse(0, 60, 7, 0);
        CHECK.due("again(0, 6): the last one of THE WAY", y.again(0, 6), 12);
        CHECK.due("again(6, 5): the first one of THE WAY", y.again(6, 5), 14);
        for (int p = 0; p < 7; p++) {
            CHECK.due("again(" + p + ", " + p + ")", y.again(p, p), 0);
        }
    }

    private static void doctorAnywhere() {
        for (int best = 0; best < 7; best++) {
            HorsesOwnWays x = new HorsesOwnWays();
            for (int a = 0; a < 7; a++) {
                for (int b = 0; b < a; b++) {
                    x.path(a, b, a == best || b == best ? 10 : 50);
                }
            }
            CHECK.due("doctor(0) at " + best, x.doctor(0), 10);
            CHECK.due("doctor(1) at " + best, x.doctor(1), best);
        }
        HorsesOwnWays y = new HorsesOwnWays();
        for (int a = 0; a < 7; a++) {
            for (int b = 0; b < a; b++) {
                y.path(a, b, 999);
            }
        }
        CHECK.due("doctor(0), all as far as can be", y.doctor(0), 999);
        CHECK.due("doctor(1), all as far as can be", y.doctor(1), 0);
    }
}
