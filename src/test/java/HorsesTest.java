/** Promises 11 to 15: horse, stand, told, goes, at. */
public final class HorsesTest {
    private static final Check CHECK = new Check("horses");

    public static void main(String[] args) {
        horse();
        stand();
        told();
        goes();
        at();
        halfWhither();
        blindWhither();
        outsAndHomes();
        outsAndHomesByLaw();
        eachKindOfAll();
        CHECK.finish();
    }

    private static void horse() {
        HorsesOwnWays x = new HorsesOwnWays();
        int[][] wrong = {{-1, 1, 1, 0}, {6, 1, 1, 0}, {0, 0, 1, 0}, {0, 66, 1, 0}, {0, 7, 1, 0}, {0, 70, 1, 0},
                {0, -1, 1, 0}, {0, -10, 1, 0}, {0, 107, 1, 0}, {0, 1, 0, 0}, {0, 1, 1000, 0}, {0, 1, 1, -1},
                {0, 1, 1, 10}, {0, Integer.MIN_VALUE, 1, 0}, {0, Integer.MAX_VALUE, 1, 0}};
        for (int[] w : wrong) {
            CHECK.due("horse(" + w[0] + ", " + w[1] + ", " + w[2] + ", " + w[3] + ")",
                    x.horse(w[0], w[1], w[2], w[3]), -2);
        }
        for (int h = 0; h < 7; h++) {
            CHECK.due("horse(5, 65, 999, 9)", x.horse(5, 65, 999, 9), h);
        }
        CHECK.due("horse(0, 1, 1, 0), an eighth", x.horse(0, 1, 1, 0), -4);
        CHECK.due("horse(0, 1, 1, 10), an eighth: BAD first", x.horse(0, 1, 1, 10), -2);
        CHECK.due("count(0)", x.count(0), 7);
    }

    private static void stand() {
        HorsesOwnWays x = new HorsesOwnWays();
        CHECK.due("stand(0, 5) of none", x.stand(0, 5), -5);
        x.horse(0, 6, 10, 0);
        CHECK.due("stand(0, 999)", x.stand(0, 999), 0);
        CHECK.due("stand(0, 1000)", x.stand(0, 1000), -7);
        CHECK.due("stand(0, -1)", x.stand(0, -1), -7);
        CHECK.due("stand(1, -1), -5 first", x.stand(1, -1), -5);
        CHECK.due("stand(0, 20)", x.stand(0, 20), 999);
        CHECK.due("told(0, 5)", x.told(0, 5), 20);
        CHECK.due("soonest(0, 6, 0): 20 and 10", x.soonest(0, 6, 0), 30);
        CHECK.due("stand(0, 0)", x.stand(0, 0), 20);
        CHECK.due("soonest(0, 6, 0): 0 and 10", x.soonest(0, 6, 0), 10);
    }

    private static void told() {
        HorsesOwnWays x = new HorsesOwnWays();
        for (int kind = 0; kind < 6; kind++) {
            x.horse(kind, 35, 41, 8);
        }
        int[] outs = {41, 41, 49, 41, 49, 20};
        int[] homes = {41, 41, 41, 41, 90, 41};
        for (int kind = 0; kind < 6; kind++) {
            x.stand(kind, 100 + kind);
            int[] due = {kind, 3, 5, 41, 8, 100 + kind, outs[kind], homes[kind]};
            for (int what = 0; what < 8; what++) {
                CHECK.due("told(" + kind + ", " + what + ")", x.told(kind, what), due[what]);
            }
        }
        CHECK.due("told(0, 8)", x.told(0, 8), -7);
        CHECK.due("told(0, -1)", x.told(0, -1), -7);
        CHECK.due("told(6, 8), -5 first", x.told(6, 8), -5);
        CHECK.due("told(-1, 0)", x.told(-1, 0), -5);
        x.horse(5, 35, 1, 0);
        CHECK.due("told(6, 6): half of 1 is 1", x.told(6, 6), 1);
        HorsesOwnWays y = new HorsesOwnWays();
        y.horse(4, 35, 999, 9);
        CHECK.due("told(0, 6) above 999", y.told(0, 6), 1008);
        CHECK.due("told(0, 7) above 999", y.told(0, 7), 2007);
    }

    private static void goes() {
        HorsesOwnWays x = new HorsesOwnWays();
        for (int kind = 0; kind < 6; kind++) {
            x.horse(kind, 26, 10, 9);
        }
        int[] fromTwo = {6, 6, 6, 0, 6, 2};
        int[] fromSix = {-1, 2, -1, 3, -1, -1};
        for (int kind = 0; kind < 6; kind++) {
            CHECK.due("goes(" + kind + ", 2)", x.goes(kind, 2), fromTwo[kind]);
            CHECK.due("goes(" + kind + ", 6)", x.goes(kind, 6), fromSix[kind]);
            CHECK.due("goes(" + kind + ", 4)", x.goes(kind, 4), -1);
        }
        CHECK.due("goes(6, 2)", x.goes(6, 2), -5);
        CHECK.due("goes(-1, 2)", x.goes(-1, 2), -5);
        CHECK.due("goes(0, 7)", x.goes(0, 7), -5);
        CHECK.due("goes(0, -1)", x.goes(0, -1), -5);
    }

    private static void at() {
        HorsesOwnWays x = new HorsesOwnWays();
        CHECK.due("at(2) of none", x.at(2), 0);
        for (int kind = 0; kind < 6; kind++) {
            x.horse(kind, 26, 10, 9);
        }
        CHECK.due("at(2), the HALF that goes to 2, too", x.at(2), 63);
        CHECK.due("at(6)", x.at(6), 10);
        CHECK.due("at(0)", x.at(0), 0);
        CHECK.due("at(7)", x.at(7), -5);
        CHECK.due("at(-1)", x.at(-1), -5);
    }

    /** HALF: whither MORE modulo 7 says, which 7, 8, 9 pass; the very PLACE, too. */
    private static void halfWhither() {
        int[] whither = {0, 1, 2, 3, 4, 5, 6, 0, 1, 2};
        for (int from = 0; from < 7; from++) {
            for (int more = 0; more <= 9; more++) {
                HorsesOwnWays x = new HorsesOwnWays();
                int to = (from + 1) % 7;
                x.horse(5, 10 * from + to, 2, more);
                for (int p = 0; p < 7; p++) {
                    CHECK.due("goes of a HALF of MORE " + more, x.goes(0, p), p == from ? whither[more] : -1);
                    CHECK.due("at of a HALF of MORE " + more, x.at(p), p == from ? 1 : 0);
                }
                CHECK.due("PIECES to the very PLACE", x.soonest(from, from, 3), 0);
                boolean isRidden = whither[more] != from;
                CHECK.due("soonest by a HALF of MORE " + more, x.soonest(from, whither[more], 0), isRidden ? 1 : 0);
                CHECK.due("HORSES of that WAY", x.soonest(from, whither[more], 1), isRidden ? 1 : 0);
            }
        }
    }

    /** BLIND: one PLACE further than a BOTH, behind 6 comes 0; the very PLACE, too. */
    private static void blindWhither() {
        for (int from = 0; from < 7; from++) {
            for (int to = 0; to < 7; to++) {
                HorsesOwnWays x = new HorsesOwnWays();
                x.horse(3, 10 * from + to, 1, 9);
                for (int p = 0; p < 7 && from != to; p++) {
                    int whither = p == from ? to == 6 ? 0 : to + 1 : p == to ? from == 6 ? 0 : from + 1 : -1;
                    CHECK.due("goes of a BLIND " + from + to + " from " + p, x.goes(0, p), whither);
                    CHECK.due("at of a BLIND " + from + to + " from " + p, x.at(p), whither < 0 ? 0 : 1);
                    if (whither >= 0) {
                        CHECK.due("soonest by a BLIND", x.soonest(p, whither, 0), whither == p ? 0 : 1);
                        CHECK.due("PIECES of it", x.soonest(p, whither, 3), whither == p ? 0 : 1);
                    }
                }
            }
        }
    }

    private static void outAndHome(HorsesOwnWays x, String of, int out, int home) {
        CHECK.due("OUT of " + of, x.told(0, 6), out);
        CHECK.due("HOME of " + of, x.told(0, 7), home);
    }

    /** OUT and HOME at the least and at the greatest TOLD and MORE; a half is cut, and 1 at least. */
    private static void outsAndHomes() {
        for (int told : new int[] {1, 2, 3, 4, 5, 998, 999}) {
            for (int more : new int[] {0, 1, 8, 9}) {
                int half = told == 1 ? 1 : told % 2 == 0 ? told / 2 : (told - 1) / 2;
                int[] outs = {told, told, told + more, told, told + more, half};
                int[] homes = {told, told, told, told, told + told + more, told};
                for (int kind = 0; kind < 6; kind++) {
                    HorsesOwnWays x = new HorsesOwnWays();
                    x.horse(kind, 6, told, more);
                    outAndHome(x, "KIND " + kind + " of TOLD " + told + ", MORE " + more, outs[kind], homes[kind]);
                    CHECK.due("READY at first", x.told(0, 5), 0);
                }
            }
        }
    }

    /** THE LAW has its bounds ahead of what the KIND makes of it. */
    private static void outsAndHomesByLaw() {
        int[] outs = {1, 1, 10, 1, 10, 1};
        int[] homes = {1, 1, 1, 1, 11, 1};
        int[] mostOuts = {999, 999, 1008, 999, 1008, 499};
        int[] mostHomes = {999, 999, 999, 999, 2007, 999};
        for (int kind = 0; kind < 6; kind++) {
            HorsesOwnWays x = new HorsesOwnWays();
            x.horse(kind, 6, 50, 9);
            Check.textOf(x, "out -5;home 0;dies 0;");
            Check.textOf(x, "out 1000;home 9999;dies 0;");
            x.force(1);
            outAndHome(x, "KIND " + kind + " where less than 1 is said", outs[kind], homes[kind]);
            x.force(2);
            outAndHome(x, "KIND " + kind + " where more than 999 is said", mostOuts[kind], mostHomes[kind]);
            CHECK.due("asks(0, 0), not of its KIND", x.asks(0, 0), 999);
            CHECK.due("asks(1, 0), not of its KIND", x.asks(1, 0), 999);
        }
    }

    /** 7 HORSES: each as it was told, the last one, too. */
    private static void eachKindOfAll() {
        HorsesOwnWays x = new HorsesOwnWays();
        for (int h = 0; h < 7; h++) {
            CHECK.due("horse " + h, x.horse(h % 6, 10 * h + 6 - h + (h == 3 ? 1 : 0), 1 + 166 * h, h + 3), h);
            CHECK.due("stand " + h, x.stand(h, 166 * h + 3), 0);
        }
        for (int h = 0; h < 7; h++) {
            int[] due = {h % 6, h, h == 3 ? 4 : 6 - h, 1 + 166 * h, h + 3, 166 * h + 3};
            for (int what = 0; what < 6; what++) {
                CHECK.due("told(" + h + ", " + what + ")", x.told(h, what), due[what]);
            }
        }
        HorsesOwnWays y = new HorsesOwnWays();
        for (int h = 0; h < 7; h++) {
            y.horse(0, 65, 9, 0);
        }
        CHECK.due("at(6) of seven", y.at(6), 127);
        CHECK.due("at(5) of seven", y.at(5), 0);
    }
}
