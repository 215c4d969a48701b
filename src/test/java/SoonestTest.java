/** Promises 16 to 20: soonest, piece, both, all, worth. */
public final class SoonestTest {
    private static final Check CHECK = new Check("soonest");

    public static void main(String[] args) {
        soonest();
        likeOnes();
        readyAndTwice();
        notRiddenThere();
        piece();
        both();
        all();
        worth();
        CHECK.finish();
    }

    private static void soonest() {
        HorsesOwnWays x = new HorsesOwnWays();
        x.horse(0, 16, 10, 0);
        x.horse(0, 64, 5, 0);
        // 0 on foot to 1 (30), by HORSE 0 to 6 (40), by HORSE 1 to 4 (45), on foot to 3 (75)
        int[] due = {75, 3, 60, 4, -1};
        for (int what = 0; what < 5; what++) {
            CHECK.due("soonest(0, 3, " + what + ")", x.soonest(0, 3, what), due[what]);
        }
        CHECK.due("soonest(1, 4, 4)", x.soonest(1, 4, 4), 0);
        CHECK.due("soonest(0, 3, 5)", x.soonest(0, 3, 5), -7);
        CHECK.due("soonest(0, 3, -1)", x.soonest(0, 3, -1), -7);
        CHECK.due("soonest(7, 3, 5), -5 first", x.soonest(7, 3, 5), -5);
        CHECK.due("soonest(0, -1, 0)", x.soonest(0, -1, 0), -5);
        CHECK.due("soonest(2, 2, 4)", x.soonest(2, 2, 4), -1);
        x.horse(0, 40, 1, 0);
        CHECK.due("soonest(4, 0, 4), to PLACE 0", x.soonest(4, 0, 4), 2);
    }

    /** Of like ways the first told counts: HORSES by numbers, then on foot; the PLACE left first. */
    private static void likeOnes() {
        HorsesOwnWays x = new HorsesOwnWays();
        x.horse(0, 1, 30, 0);
        CHECK.due("a HORSE as fast as on foot", x.piece(0, 1, 0), 1);
        x.horse(0, 2, 20, 0);
        x.horse(0, 2, 20, 0);
        CHECK.due("two HORSES alike", x.piece(0, 2, 0), 12);
        x.horse(0, 23, 10, 0);
        // 3 by 0-2-3 at 30, by nothing else; 1 at 30, too: 1 is left ahead of 3
        x.path(1, 4, 20);
        x.path(3, 4, 20);
        CHECK.due("soonest(0, 4, 0)", x.soonest(0, 4, 0), 50);
        CHECK.due("the PLACE left first, 1", x.piece(0, 4, 0), 1);
        CHECK.due("then on foot", x.piece(0, 4, 1), 74);
        x.path(1, 4, 21);
        CHECK.due("the other one where it is sooner", x.piece(0, 4, 0), 12);
    }

    private static void readyAndTwice() {
        HorsesOwnWays x = new HorsesOwnWays();
        x.horse(0, 6, 10, 0);
        x.stand(0, 169);
        CHECK.due("READY late, yet sooner", x.soonest(0, 6, 0), 179);
        x.stand(0, 170);
        CHECK.due("READY as late as on foot", x.soonest(0, 6, 1), 1);
        x.stand(0, 171);
        CHECK.due("READY too late", x.soonest(0, 6, 1), 0);
        x.stand(0, 20);
        CHECK.due("on foot to it, and READY", x.soonest(1, 6, 0), 40);
        HorsesOwnWays y = new HorsesOwnWays();
        y.horse(3, 4, 1, 0);
        y.path(5, 4, 1);
        // BLIND from 0 to 5, on foot to 4, BLIND from 4 to 1
        CHECK.due("a HORSE twice", y.soonest(0, 1, 0), 3);
        CHECK.due("its PIECES", y.soonest(0, 1, 3), 3);
        CHECK.due("its HORSES", y.soonest(0, 1, 1), 1);
    }

    private static void notRiddenThere() {
        HorsesOwnWays x = new HorsesOwnWays();
        x.horse(3, 21, 1, 0);
        CHECK.due("soonest(2, 2, 3)", x.soonest(2, 2, 3), 0);
        CHECK.due("soonest(2, 3, 1)", x.soonest(2, 3, 1), 0);
        CHECK.due("soonest(1, 3, 0)", x.soonest(1, 3, 0), 1);
    }

    private static void piece() {
        HorsesOwnWays x = new HorsesOwnWays();
        x.horse(0, 16, 10, 0);
        x.horse(0, 64, 5, 0);
        int[] due = {71, 6, 14, 73, -1};
        for (int i = 0; i < 5; i++) {
            CHECK.due("piece(0, 3, " + i + ")", x.piece(0, 3, i), due[i]);
        }
        CHECK.due("piece(0, 3, max)", x.piece(0, 3, Integer.MAX_VALUE), -1);
        CHECK.due("piece(2, 2, 0)", x.piece(2, 2, 0), -1);
        CHECK.due("piece(0, 3, -1)", x.piece(0, 3, -1), -7);
        CHECK.due("piece(0, 7, -1), -5 first", x.piece(0, 7, -1), -5);
        CHECK.due("piece(-1, 0, 0)", x.piece(-1, 0, 0), -5);
    }

    private static void both() {
        HorsesOwnWays x = new HorsesOwnWays();
        x.ride(0, 6);
        x.ride(0, 5);
        CHECK.due("both(0, 1, 0) without HORSES", x.both(0, 1, 0), 180);
        CHECK.due("both(0, 1, 1) without HORSES", x.both(0, 1, 1), 330);
        x.horse(0, 6, 10, 0);
        // With HORSE 0 for RIDE 0: 10 and 150; for RIDE 1: 180 and 40.
        CHECK.due("both(0, 1, 0)", x.both(0, 1, 0), 150);
        CHECK.due("both(0, 1, 1)", x.both(0, 1, 1), 160);
        CHECK.due("both(0, 1, 2)", x.both(0, 1, 2), 1);
        CHECK.due("both(1, 0, 2)", x.both(1, 0, 2), 0);
        x.horse(0, 6, 20, 0);
        // HORSE 0 for RIDE 1: 20 and 40; HORSE 1 for RIDE 1: 10 and 50.
        CHECK.due("both(0, 1, 0) of two", x.both(0, 1, 0), 40);
        CHECK.due("both(0, 1, 1) of two", x.both(0, 1, 1), 60);
        CHECK.due("both(0, 1, 2) of two", x.both(0, 1, 2), 2);
        CHECK.due("both(0, 0, 0)", x.both(0, 0, 0), 20);
        CHECK.due("both(0, 0, 2): the least as bits", x.both(0, 0, 2), 1);
        CHECK.due("both(0, 1, 3)", x.both(0, 1, 3), -7);
        CHECK.due("both(0, 1, -1)", x.both(0, 1, -1), -7);
        CHECK.due("both(0, 2, 3), -5 first", x.both(0, 2, 3), -5);
        CHECK.due("both(-1, 0, 0)", x.both(-1, 0, 0), -5);
        HorsesOwnWays y = new HorsesOwnWays();
        y.ride(0, 6);
        y.ride(1, 5);
        y.horse(0, 6, 100, 0);
        y.horse(0, 15, 100, 0);
        y.horse(0, 15, 30, 0);
        // The later is 100 whoever has HORSES 1, 2; both together are least if RIDE 1 has HORSE 2.
        CHECK.due("both: of like ones both together", y.both(0, 1, 1), 130);
        CHECK.due("both: of those the least as bits", y.both(0, 1, 2), 1);
        laterCountsFirst();
    }

    /** RIDE 0: 100 on foot, 5 by the HORSE; RIDE 1: 120 on foot, 90 by the HORSE. */
    private static void laterCountsFirst() {
        HorsesOwnWays x = new HorsesOwnWays();
        for (int a = 0; a < 7; a++) {
            for (int b = 0; b < a; b++) {
                x.path(a, b, 999);
            }
        }
        x.path(0, 6, 100);
        x.path(3, 4, 120);
        x.ride(0, 6);
        x.ride(3, 4);
        x.horse(0, 6, 5, 0);
        x.path(0, 3, 1);
        x.path(6, 4, 84);
        // 3 to 0 on foot 1, to 6 by the HORSE 5, to 4 on foot 84: 90
        CHECK.due("both: the later first", x.both(0, 1, 0), 100);
        CHECK.due("both: though together it is more", x.both(0, 1, 1), 190);
        CHECK.due("both: the HORSE for RIDE 1", x.both(0, 1, 2), 0);
    }

    private static void all() {
        HorsesOwnWays x = new HorsesOwnWays();
        CHECK.due("all() of none", x.all(), 0);
        x.ride(0, 6);
        x.ride(0, 6);
        x.ride(6, 0);
        CHECK.due("all() on foot", x.all(), 540);
        x.horse(0, 6, 10, 0);
        CHECK.due("all(): a HORSE for each by itself", x.all(), 200);
        x.ride(5, 4);
        CHECK.due("all() of four", x.all(), 230);
    }

    private static void worth() {
        HorsesOwnWays x = new HorsesOwnWays();
        x.ride(0, 6);
        x.ride(1, 6);
        CHECK.due("worth(0) of none", x.worth(0), -5);
        x.horse(0, 6, 10, 0);
        // 10 and 40 with it, 180 and 150 without it
        CHECK.due("worth(0)", x.worth(0), 280);
        x.horse(0, 6, 15, 0);
        CHECK.due("worth(0) of two", x.worth(0), 10);
        CHECK.due("worth(1) of two", x.worth(1), 0);
        CHECK.due("worth(2)", x.worth(2), -5);
        CHECK.due("worth(-1)", x.worth(-1), -5);
    }
}
