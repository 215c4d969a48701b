/** Promises 21 to 23: teach, move, cut. */
public final class BetterTest {
    private static final Check CHECK = new Check("what would be better");

    public static void main(String[] args) {
        teach();
        teachByLaw();
        move();
        moveByLaw();
        cut();
        teachAThird();
        teachOneAtLeast();
        teachOfSixAndSeven();
        moveOfAll();
        cutAtItsBounds();
        CHECK.finish();
    }

    private static void teach() {
        HorsesOwnWays x = new HorsesOwnWays();
        CHECK.due("teach(0) without RIDES", x.teach(0), -1);
        CHECK.due("teach(1) without RIDES", x.teach(1), 0);
        x.ride(0, 6);
        CHECK.due("teach(0)", x.teach(0), 6);
        CHECK.due("teach(1): a third", x.teach(1), 60);
        CHECK.due("count(0) then", x.count(0), 0);
        CHECK.due("all() then", x.all(), 180);
        x.path(0, 6, 181);
        CHECK.due("teach(1): cut", x.teach(1), 60);
        x.ride(1, 5);
        // 0 to 6 gains 120 for one RIDE; 1 to 5 gains 80 for each of both
        CHECK.due("teach(0) of two RIDES", x.teach(0), 15);
        CHECK.due("teach(1) of two RIDES", x.teach(1), 140);
        CHECK.due("teach(2)", x.teach(2), -2);
        CHECK.due("teach(-1)", x.teach(-1), -2);
        HorsesOwnWays y = new HorsesOwnWays();
        y.path(3, 4, 2);
        y.ride(3, 4);
        CHECK.due("teach(1): a third is 1 at least", y.teach(1), 1);
        y.path(3, 4, 1);
        CHECK.due("teach(0): not less than now", y.teach(0), -1);
        CHECK.due("teach(1): RIDDEN now", y.teach(1), 1);
        for (int h = 0; h < 7; h++) {
            CHECK.due("teach(0) while there is room", y.teach(0), -1);
            y.horse(0, 12, 900, 0);
        }
        CHECK.due("teach(0) of 7 HORSES", y.teach(0), -3);
        CHECK.due("teach(2) of 7 HORSES: BAD first", y.teach(2), -2);
        HorsesOwnWays z = new HorsesOwnWays();
        z.ride(1, 0);
        z.ride(0, 1);
        CHECK.due("teach(0): of like ones the first by FROM", z.teach(0), 1);
    }

    private static void teachByLaw() {
        HorsesOwnWays x = new HorsesOwnWays();
        x.ride(0, 6);
        Check.textOf(x, "out (to=6)*900+(to=5)*(told+more+ready+far-199)+1;home 1;dies 0;");
        x.force(1);
        // 0 to 5: TOLD 50, far 150: 2, and on foot 30; 0 to 1 .. 4: 1, and on foot from there
        CHECK.due("teach(0) by THE LAW", x.teach(0), 5);
        CHECK.due("teach(1) by THE LAW", x.teach(1), 32);
        x.horse(0, 6, 5, 9);
        x.stand(0, 7);
        Check.textOf(x, "out told;home 1;dies 0;");
        x.back();
        CHECK.due("teach changes nothing of the next HORSE", x.horse(0, 12, 3, 4), 1);
        CHECK.due("its READY", x.told(1, 5), 0);
        CHECK.due("its MORE", x.told(1, 4), 4);
    }

    private static void move() {
        HorsesOwnWays x = new HorsesOwnWays();
        CHECK.due("move(0, 0) of none", x.move(0, 0), -5);
        x.horse(0, 6, 10, 0);
        CHECK.due("move(0, 0) without RIDES", x.move(0, 0), 0);
        x.horse(0, 60, 10, 0);
        CHECK.due("move(1, 0): not its TO", x.move(1, 0), 1);
        x.ride(3, 6);
        CHECK.due("move(0, 0)", x.move(0, 0), 3);
        CHECK.due("move(0, 1)", x.move(0, 1), 10);
        CHECK.due("told(0, 1) then", x.told(0, 1), 0);
        CHECK.due("all() then", x.all(), 90);
        CHECK.due("move(1, 0): to 0, and by HORSE 0", x.move(1, 0), 3);
        CHECK.due("move(1, 1): to 0, and by HORSE 0", x.move(1, 1), 20);
        x.stand(1, 999);
        CHECK.due("move(1, 0), READY too late: all alike", x.move(1, 0), 1);
        CHECK.due("move(1, 1), READY too late: all alike", x.move(1, 1), 90);
        CHECK.due("move(0, 2)", x.move(0, 2), -7);
        CHECK.due("move(0, -1)", x.move(0, -1), -7);
        CHECK.due("move(2, 2), -5 first", x.move(2, 2), -5);
        HorsesOwnWays y = new HorsesOwnWays();
        y.ride(3, 5);
        y.horse(1, 5, 10, 0);
        CHECK.due("move of a BOTH", y.move(0, 0), 3);
        CHECK.due("move of a BOTH, worse where it is", y.worth(0), 0);
    }

    private static void moveByLaw() {
        HorsesOwnWays x = new HorsesOwnWays();
        x.ride(3, 6);
        x.horse(0, 6, 10, 0);
        Check.textOf(x, "out far+from;home 1;dies 0;");
        x.force(1);
        // from 3: 93; from 4: 30 on foot, and 64; from 5: 60 on foot, and 35: on foot alone is sooner
        CHECK.due("move(0, 1) by THE LAW", x.move(0, 1), 90);
        CHECK.due("told(0, 6) then", x.told(0, 6), 180);
        x.path(4, 6, 3);
        // 3 to 4 on foot 30, then on foot 3, by the HORSE 7
        CHECK.due("move(0, 1) then", x.move(0, 1), 33);
        CHECK.due("move(0, 0) then", x.move(0, 0), 0);
        Check.textOf(x, "out (from=3)*20+5;home 1;dies 0;");
        x.force(2);
        x.path(4, 6, 60);
        CHECK.due("move(0, 1) by the FROM it would have", x.move(0, 1), 25);
        CHECK.due("move(0, 0) by the FROM it would have", x.move(0, 0), 3);
        CHECK.due("told(0, 6) by the FROM it has", x.told(0, 6), 5);
    }

    private static void cut() {
        HorsesOwnWays x = new HorsesOwnWays();
        x.ride(0, 6);
        x.ride(1, 6);
        CHECK.due("cut(0, 6, 5)", x.cut(0, 6, 5), 290);
        CHECK.due("cut(6, 0, 5)", x.cut(6, 0, 5), 290);
        CHECK.due("pathTold(0, 6) then", x.pathTold(0, 6), 180);
        CHECK.due("all() then", x.all(), 330);
        x.path(0, 6, 5);
        CHECK.due("cut(0, 6, 25)", x.cut(0, 6, 25), -40);
        CHECK.due("cut(3, 4, 1)", x.cut(3, 4, 1), 0);
        CHECK.due("cut(3, 3, 1)", x.cut(3, 3, 1), -1000000);
        CHECK.due("cut(-1, 3, 1)", x.cut(-1, 3, 1), -1000000);
        CHECK.due("cut(3, 7, 1)", x.cut(3, 7, 1), -1000000);
        CHECK.due("cut(3, 4, 0)", x.cut(3, 4, 0), -1000000);
        CHECK.due("cut(3, 4, 1000)", x.cut(3, 4, 1000), -1000000);
        HorsesOwnWays y = new HorsesOwnWays();
        y.ride(0, 6);
        y.horse(0, 6, 10, 0);
        Check.textOf(y, "out 1000-far*5;home 1;dies 0;");
        y.force(1);
        CHECK.due("all() by THE LAW", y.all(), 100);
        CHECK.due("cut(0, 6, 190): far, too", y.cut(0, 6, 190), 50);
        CHECK.due("told(0, 6) then", y.told(0, 6), 100);
    }

    /** TOLD is a third of the WALK, cut, and 1 at least. */
    private static void teachAThird() {
        int[] walks = {1, 2, 3, 4, 5, 6, 7, 8, 9, 10, 29, 30, 31, 997, 998, 999};
        int[] thirds = {1, 1, 1, 1, 1, 2, 2, 2, 3, 3, 9, 10, 10, 332, 332, 333};
        for (int i = 0; i < walks.length; i++) {
            HorsesOwnWays x = new HorsesOwnWays();
            for (int a = 0; a < 7; a++) {
                for (int b = 0; b < a; b++) {
                    x.path(a, b, 999);
                }
            }
            x.path(4, 2, walks[i]);
            x.ride(4, 2);
            CHECK.due("teach(1) of a WALK of " + walks[i], x.teach(1), thirds[i]);
            CHECK.due("teach(0) of a WALK of " + walks[i], x.teach(0), walks[i] == 1 ? -1 : 42);
        }
    }

    /** Of WALKS of 1 and 2 minutes the foal is TOLD 1, as THE LAW hears it, not 0. */
    private static void teachOneAtLeast() {
        for (int walk = 1; walk <= 5; walk++) {
            HorsesOwnWays x = new HorsesOwnWays();
            for (int a = 0; a < 7; a++) {
                for (int b = 0; b < a; b++) {
                    x.path(a, b, 999);
                }
            }
            x.path(3, 4, walk);
            x.ride(0, 1);
            Check.textOf(x, "out 999*(not (from=3)*(to=4))+told*100;home 1;dies 0;");
            x.force(1);
            x.path(0, 3, 1);
            x.path(1, 4, 1);
            x.path(3, 4, walk);
            // 0 to 3 and 4 to 1 on foot, 1 minute each; between them the WALK is sooner than 100 by the foal
            CHECK.due("teach(0) of a WALK of " + walk, x.teach(0), -1);
            CHECK.due("teach(1) of a WALK of " + walk, x.teach(1), 2 + walk);
        }
    }

    /** The last one that may come is taught as HORSE 6; of 7 HORSES none is. */
    private static void teachOfSixAndSeven() {
        HorsesOwnWays x = new HorsesOwnWays();
        x.ride(0, 6);
        for (int h = 0; h < 6; h++) {
            CHECK.due("teach(0) of " + h, x.teach(0), 6);
            CHECK.due("teach(1) of " + h, x.teach(1), 60);
            x.horse(0, 12, 900, 0);
            x.stand(h, 900);
        }
        x.path(0, 6, 1);
        CHECK.due("teach(0) of 6, none less", x.teach(0), -1);
        CHECK.due("teach(1) of 6, RIDDEN now", x.teach(1), 1);
        x.path(0, 6, 180);
        x.image();
        CHECK.due("a seventh", x.horse(0, 6, 61, 0), 6);
        CHECK.due("teach(0) of 7", x.teach(0), -3);
        CHECK.due("teach(1) of 7", x.teach(1), -3);
        CHECK.due("teach(-1) of 7", x.teach(-1), -2);
        CHECK.due("HORSE 6 then", x.told(6, 3), 61);
        x.back();
        CHECK.due("teach(0) of 6 again", x.teach(0), 6);
        CHECK.due("count(0) then", x.count(0), 6);
    }

    /** A stable may be at any PLACE but its TO; without RIDES the first of them. */
    private static void moveOfAll() {
        for (int to = 0; to < 7; to++) {
            HorsesOwnWays x = new HorsesOwnWays();
            x.horse(0, 10 * ((to + 3) % 7) + to, 1, 0);
            CHECK.due("move(0, 0) without RIDES, TO " + to, x.move(0, 0), to == 0 ? 1 : 0);
            CHECK.due("move(0, 1) without RIDES, TO " + to, x.move(0, 1), 0);
            for (int from = 0; from < 7; from++) {
                HorsesOwnWays y = new HorsesOwnWays();
                y.horse(0, 10 * ((to + 3) % 7) + to, 1, 0);
                if (y.ride(from, to) == 0) {
                    CHECK.due("move(0, 0) to where the RIDE is from", y.move(0, 0), from);
                    CHECK.due("move(0, 1) to where the RIDE is from", y.move(0, 1), 1);
                    CHECK.due("FROM then", y.told(0, 1), (to + 3) % 7);
                }
            }
        }
    }

    private static void cutAtItsBounds() {
        HorsesOwnWays x = new HorsesOwnWays();
        CHECK.due("cut(0, 6, 1) without RIDES", x.cut(0, 6, 1), 0);
        for (int r = 0; r < 4; r++) {
            x.ride(0, 6);
        }
        CHECK.due("cut(0, 6, 1)", x.cut(0, 6, 1), 716);
        CHECK.due("cut(0, 6, 179)", x.cut(0, 6, 179), 4);
        CHECK.due("cut(0, 6, 180): as it is", x.cut(0, 6, 180), 0);
        CHECK.due("cut(0, 6, 181): by way of others", x.cut(0, 6, 181), 0);
        CHECK.due("cut(0, 6, 999): by way of others", x.cut(0, 6, 999), 0);
        CHECK.due("all() then", x.all(), 720);
        x.path(0, 6, 1);
        CHECK.due("cut(6, 0, 2): below 0", x.cut(6, 0, 2), -4);
        CHECK.due("cut(6, 0, 999): below 0", x.cut(6, 0, 999), -716);
    }
}
