/** Promises 11 to 15: horse, stand, told, goes, at. */
public final class HorsesTest {
    private static final Check CHECK = new Check("horses");

    public static void main(String[] args) {
        horse();
        stand();
        told();
        goes();
        at();
        CHECK.finish();
    }

    private static void horse() {
        HorsesOwnWays x = new HorsesOwnWays();
        int[][] wrong = {{-1, 1, 1, 0}, {6, 1, 1, 0}, {0, 0, 1, 0}, {0, 66, 1, 0}, {0, 7, 1, 0}, {0, 70, 1, 0},
                {0, -1, 1, 0}, {0, -10, 1, 0}, {0, 107, 1, 0}, {0, 1, 0, 0}, {0, 1, 1000, 0}, {0, 1, 1, -1},
                {0, 1, 1, 10}, {0, Integer.MIN_VALUE, 1, 0}, {0, Integer.MAX_VALUE, 1, 0}};
        for (int[] w : wrong) {
            CHECK.due("horse(" + w[0] + ", " + w[1] + ", " + w[2] + ", " + w[3] + ")",
                    x.horse(w[0], w[1], w[2], w[3]), -2);
        }
        for (int h = 0; h < 7; h++) {
            CHECK.due("horse(5, 65, 999, 9)", x.horse(5, 65, 999, 9), h);
        }
        CHECK.due("horse(0, 1, 1, 0), an eighth", x.horse(0, 1, 1, 0), -4);
        CHECK.due("horse(0, 1, 1, 10), an eighth: BAD first", x.horse(0, 1, 1, 10), -2);
        CHECK.due("count(0)", x.count(0), 7);
    }

    private static void stand() {
        HorsesOwnWays x = new HorsesOwnWays();
        CHECK.due("stand(0, 5) of none", x.stand(0, 5), -5);
        x.horse(0, 6, 10, 0);
        CHECK.due("stand(0, 999)", x.stand(0, 999), 0);
        CHECK.due("stand(0, 1000)", x.stand(0, 1000), -7);
        CHECK.due("stand(0, -1)", x.stand(0, -1), -7);
        CHECK.due("stand(1, -1), -5 first", x.stand(1, -1), -5);
        CHECK.due("stand(0, 20)", x.stand(0, 20), 999);
        CHECK.due("told(0, 5)", x.told(0, 5), 20);
        CHECK.due("soonest(0, 6, 0): 20 and 10", x.soonest(0, 6, 0), 30);
        CHECK.due("stand(0, 0)", x.stand(0, 0), 20);
        CHECK.due("soonest(0, 6, 0): 0 and 10", x.soonest(0, 6, 0), 10);
    }

    private static void told() {
        HorsesOwnWays x = new HorsesOwnWays();
        for (int kind = 0; kind < 6; kind++) {
            x.horse(kind, 35, 41, 8);
        }
        int[] outs = {41, 41, 49, 41, 49, 20};
        int[] homes = {41, 41, 41, 41, 90, 41};
        for (int kind = 0; kind < 6; kind++) {
            x.stand(kind, 100 + kind);
            int[] due = {kind, 3, 5, 41, 8, 100 + kind, outs[kind], homes[kind]};
            for (int what = 0; what < 8; what++) {
                CHECK.due("told(" + kind + ", " + what + ")", x.told(kind, what), due[what]);
            }
        }
        CHECK.due("told(0, 8)", x.told(0, 8), -7);
        CHECK.due("told(0, -1)", x.told(0, -1), -7);
        CHECK.due("told(6, 8), -5 first", x.told(6, 8), -5);
        CHECK.due("told(-1, 0)", x.told(-1, 0), -5);
        x.horse(5, 35, 1, 0);
        CHECK.due("told(6, 6): half of 1 is 1", x.told(6, 6), 1);
        HorsesOwnWays y = new HorsesOwnWays();
        y.horse(4, 35, 999, 9);
        CHECK.due("told(0, 6) above 999", y.told(0, 6), 1008);
        CHECK.due("told(0, 7) above 999", y.told(0, 7), 2007);
    }

    private static void goes() {
        HorsesOwnWays x = new HorsesOwnWays();
        for (int kind = 0; kind < 6; kind++) {
            x.horse(kind, 26, 10, 9);
        }
        int[] fromTwo = {6, 6, 6, 0, 6, 2};
        int[] fromSix = {-1, 2, -1, 3, -1, -1};
        for (int kind = 0; kind < 6; kind++) {
            CHECK.due("goes(" + kind + ", 2)", x.goes(kind, 2), fromTwo[kind]);
            CHECK.due("goes(" + kind + ", 6)", x.goes(kind, 6), fromSix[kind]);
            CHECK.due("goes(" + kind + ", 4)", x.goes(kind, 4), -1);
        }
        CHECK.due("goes(6, 2)", x.goes(6, 2), -5);
        CHECK.due("goes(-1, 2)", x.goes(-1, 2), -5);
        CHECK.due("goes(0, 7)", x.goes(0, 7), -5);
        CHECK.due("goes(0, -1)", x.goes(0, -1), -5);
    }

    private static void at() {
        HorsesOwnWays x = new HorsesOwnWays();
        CHECK.due("at(2) of none", x.at(2), 0);
        for (int kind = 0; kind < 6; kind++) {
            x.horse(kind, 26, 10, 9);
        }
        CHECK.due("at(2), the HALF that goes to 2, too", x.at(2), 63);
        CHECK.due("at(6)", x.at(6), 10);
        CHECK.due("at(0)", x.at(0), 0);
        CHECK.due("at(7)", x.at(7), -5);
        CHECK.due("at(-1)", x.at(-1), -5);
    }
}
