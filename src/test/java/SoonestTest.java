/** Promises 16 to 20: soonest, piece, both, all, worth. */
public final class SoonestTest {
    private static final Check CHECK = new Check("soonest");

    public static void main(String[] args) {
        soonest();
        likeOnes();
        readyAndTwice();
        notRiddenThere();
        piece();
        both();
        all();
        worth();
        onFoot();
        eachReady();
        placeItself();
        eachPieceOfAll();
        likeHorses();
        bothOfAll();
        worthOfAll();
        CHECK.finish();
    }

    private static void soonest() {
        HorsesOwnWays x = new HorsesOwnWays();
        x.horse(0, 16, 10, 0);
        x.horse(0, 64, 5, 0);
        // 0 on foot to 1 (30), by HORSE 0 to 6 (40), by HORSE 1 to 4 (45), on foot to 3 (75)
        int[] due = {75, 3, 60, 4, -1};
        for (int what = 0; what < 5; what++) {
            CHECK.due("soonest(0, 3, " + what + ")", x.soonest(0, 3, what), due[what]);
        }
        CHECK.due("soonest(1, 4, 4)", x.soonest(1, 4, 4), 0);
        CHECK.due("soonest(0, 3, 5)", x.soonest(0, 3, 5), -7);
        CHECK.due("soonest(0, 3, -1)", x.soonest(0, 3, -1), -7);
        CHECK.due("soonest(7, 3, 5), -5 first", x.soonest(7, 3, 5), -5);
        CHECK.due("soonest(0, -1, 0)", x.soonest(0, -1, 0), -5);
        CHECK.due("soonest(2, 2, 4)", x.soonest(2, 2, 4), -1);
        x.horse(0, 40, 1, 0);
        CHECK.due("soonest(4, 0, 4), to PLACE 0", x.soonest(4, 0, 4), 2);
    }

    /** Of like ways the first told counts: HORSES by numbers, then on foot; the PLACE left first. */
    private static void likeOnes() {
        HorsesOwnWays x = new HorsesOwnWays();
        x.horse(0, 1, 30, 0);
        CHECK.due("a HORSE as fast as on foot", x.piece(0, 1, 0), 1);
        x.horse(0, 2, 20, 0);
        x.horse(0, 2, 20, 0);
        CHECK.due("two HORSES alike", x.piece(0, 2, 0), 12);
        x.horse(0, 23, 10, 0);
        // 3 by 0-2-3 at 30, by nothing else; 1 at 30, too: 1 is left ahead of 3
        x.path(1, 4, 20);
        x.path(3, 4, 20);
        CHECK.due("soonest(0, 4, 0)", x.soonest(0, 4, 0), 50);
        CHECK.due("the PLACE left first, 1", x.piece(0, 4, 0), 1);
        CHECK.due("then on foot", x.piece(0, 4, 1), 74);
        x.path(1, 4, 21);
        CHECK.due("the other one where it is sooner", x.piece(0, 4, 0), 12);
    }

    private static void readyAndTwice() {
        HorsesOwnWays x = new HorsesOwnWays();
        x.horse(0, 6, 10, 0);
        x.stand(0, 169);
        CHECK.due("READY late, yet sooner", x.soonest(0, 6, 0), 179);
        x.stand(0, 170);
        CHECK.due("READY as late as on foot", x.soonest(0, 6, 1), 1);
        x.stand(0, 171);
        CHECK.due("READY too late", x.soonest(0, 6, 1), 0);
        x.stand(0, 20);
        CHECK.due("on foot to it, and READY", x.soonest(1, 6, 0), 40);
        HorsesOwnWays y = new HorsesOwnWays();
        y.horse(3, 4, 1, 0);
        y.path(5, 4, 1);
        // BLIND from 0 to 5, on foot to 4, BLIND from 4 to 1
        CHECK.due("a HORSE twice", y.soonest(0, 1, 0), 3);
        CHECK.due("its PIECES", y.soonest(0, 1, 3), 3);
        CHECK.due("its HORSES", y.soonest(0, 1, 1), 1);
    }

    private static void notRiddenThere() {
        HorsesOwnWays x = new HorsesOwnWays();
        x.horse(3, 21, 1, 0);
        CHECK.due("soonest(2, 2, 3)", x.soonest(2, 2, 3), 0);
        CHECK.due("soonest(2, 3, 1)", x.soonest(2, 3, 1), 0);
        CHECK.due("soonest(1, 3, 0)", x.soonest(1, 3, 0), 1);
    }

    private static void piece() {
        HorsesOwnWays x = new HorsesOwnWays();
        x.horse(0, 16, 10, 0);
        x.horse(0, 64, 5, 0);
        int[] due = {71, 6, 14, 73, -1};
        for (int i = 0; i < 5; i++) {
            CHECK.due("piece(0, 3, " + i + ")", x.piece(0, 3, i), due[i]);
        }
        CHECK.due("piece(0, 3, max)", x.piece(0, 3, Integer.MAX_VALUE), -1);
        CHECK.due("piece(2, 2, 0)", x.piece(2, 2, 0), -1);
        CHECK.due("piece(0, 3, -1)", x.piece(0, 3, -1), -7);
        CHECK.due("piece(0, 7, -1), -5 first", x.piece(0, 7, -1), -5);
        CHECK.due("piece(-1, 0, 0)", x.piece(-1, 0, 0), -5);
    }

    private static void both() {
        HorsesOwnWays x = new HorsesOwnWays();
        x.ride(0, 6);
        x.ride(0, 5);
        CHECK.due("both(0, 1, 0) without HORSES", x.both(0, 1, 0), 180);
        CHECK.due("both(0, 1, 1) without HORSES", x.both(0, 1, 1), 330);
        x.horse(0, 6, 10, 0);
        // With HORSE 0 for RIDE 0: 10 and 150; for RIDE 1: 180 and 40.
        CHECK.due("both(0, 1, 0)", x.both(0, 1, 0), 150);
        CHECK.due("both(0, 1, 1)", x.both(0, 1, 1), 160);
        CHECK.due("both(0, 1, 2)", x.both(0, 1, 2), 1);
        CHECK.due("both(1, 0, 2)", x.both(1, 0, 2), 0);
        x.horse(0, 6, 20, 0);
        // HORSE 0 for RIDE 1: 20 and 40; HORSE 1 for RIDE 1: 10 and 50.
        CHECK.due("both(0, 1, 0) of two", x.both(0, 1, 0), 40);
        CHECK.due("both(0, 1, 1) of two", x.both(0, 1, 1), 60);
        CHECK.due("both(0, 1, 2) of two", x.both(0, 1, 2), 2);
        CHECK.due("both(0, 0, 0)", x.both(0, 0, 0), 20);
        CHECK.due("both(0, 0, 2): the least as bits", x.both(0, 0, 2), 1);
        CHECK.due("both(0, 1, 3)", x.both(0, 1, 3), -7);
        CHECK.due("both(0, 1, -1)", x.both(0, 1, -1), -7);
        CHECK.due("both(0, 2, 3), -5 first", x.both(0, 2, 3), -5);
        CHECK.due("both(-1, 0, 0)", x.both(-1, 0, 0), -5);
        HorsesOwnWays y = new HorsesOwnWays();
        y.ride(0, 6);
        y.ride(1, 5);
        y.horse(0, 6, 100, 0);
        y.horse(0, 15, 100, 0);
        y.horse(0, 15, 30, 0);
        // The later is 100 whoever has HORSES 1, 2; both together are least if RIDE 1 has HORSE 2.
        CHECK.due("both: of like ones both together", y.both(0, 1, 1), 130);
        CHECK.due("both: of those the least as bits", y.both(0, 1, 2), 1);
        laterCountsFirst();
    }

    /** RIDE 0: 100 on foot, 5 by the HORSE; RIDE 1: 120 on foot, 90 by the HORSE. */
    private static void laterCountsFirst() {
        HorsesOwnWays x = new HorsesOwnWays();
        for (int a = 0; a < 7; a++) {
            for (int b = 0; b < a; b++) {
                x.path(a, b, 999);
            }
        }
        x.path(0, 6, 100);
        x.path(3, 4, 120);
        x.ride(0, 6);
        x.ride(3, 4);
        x.horse(0, 6, 5, 0);
        x.path(0, 3, 1);
        x.path(6, 4, 84);
        // 3 to 0 on foot 1, to 6 by the HORSE 5, to 4 on foot 84: 90
        CHECK.due("both: the later first", x.both(0, 1, 0), 100);
        CHECK.due("both: though together it is more", x.both(0, 1, 1), 190);
        CHECK.due("both: the HORSE for RIDE 1", x.both(0, 1, 2), 0);
    }

    private static void all() {
        HorsesOwnWays x = new HorsesOwnWays();
        CHECK.due("all() of none", x.all(), 0);
        x.ride(0, 6);
        x.ride(0, 6);
        x.ride(6, 0);
        CHECK.due("all() on foot", x.all(), 540);
        x.horse(0, 6, 10, 0);
        CHECK.due("all(): a HORSE for each by itself", x.all(), 200);
        x.ride(5, 4);
        CHECK.due("all() of four", x.all(), 230);
    }

    private static void worth() {
        HorsesOwnWays x = new HorsesOwnWays();
        x.ride(0, 6);
        x.ride(1, 6);
        CHECK.due("worth(0) of none", x.worth(0), -5);
        x.horse(0, 6, 10, 0);
        // 10 and 40 with it, 180 and 150 without it
        CHECK.due("worth(0)", x.worth(0), 280);
        x.horse(0, 6, 15, 0);
        CHECK.due("worth(0) of two", x.worth(0), 10);
        CHECK.due("worth(1) of two", x.worth(1), 0);
        CHECK.due("worth(2)", x.worth(2), -5);
        CHECK.due("worth(-1)", x.worth(-1), -5);
    }

    private static void onFoot() {
        HorsesOwnWays x = new HorsesOwnWays();
        for (int a = 0; a < 7; a++) {
            for (int b = 0; b < 7; b++) {
                int far = 30 * Math.abs(a - b);
                int[] due = {far, 0, far, a == b ? 0 : 1, -1};
                for (int what = 0; what < 5; what++) {
                    CHECK.due("soonest(" + a + ", " + b + ", " + what + ") on foot", x.soonest(a, b, what), due[what]);
                }
                CHECK.due("piece(" + a + ", " + b + ", 0) on foot", x.piece(a, b, 0), a == b ? -1 : 70 + b);
                CHECK.due("piece(" + a + ", " + b + ", 1) on foot", x.piece(a, b, 1), -1);
            }
        }
        x.path(0, 6, 999);
        for (int a = 1; a < 6; a++) {
            x.path(0, a, 999);
        }
        CHECK.due("the longest WALK", x.soonest(0, 6, 0), 999);
        x.path(2, 3, 1);
        CHECK.due("the shortest WALK", x.soonest(2, 3, 0), 1);
    }

    /** A HORSE is ridden when one is there, or when it is READY, if that is later: one minute below, at, above. */
    private static void eachReady() {
        for (int ready : new int[] {0, 1, 28, 29, 30, 31, 32, 998, 999}) {
            HorsesOwnWays x = new HorsesOwnWays();
            x.horse(0, 16, 10, 0);
            for (int a = 0; a < 7; a++) {
                x.path(6, a == 6 ? 5 : a, 999);
            }
            x.stand(0, ready);
            int due = Math.min(Math.max(30, ready) + 10, 999);
            CHECK.due("soonest(0, 6, 0), READY at " + ready, x.soonest(0, 6, 0), due);
            CHECK.due("soonest(0, 6, 2), READY at " + ready, x.soonest(0, 6, 2), ready > 988 ? 999 : 30);
            CHECK.due("soonest(1, 6, 0), READY at " + ready, x.soonest(1, 6, 0), Math.min(ready + 10, 999));
        }
    }

    /** SOON of the PLACE itself is 0, though a HORSE leads back to it, or to the very PLACE. */
    private static void placeItself() {
        HorsesOwnWays x = new HorsesOwnWays();
        x.horse(1, 23, 1, 0);
        x.horse(3, 21, 1, 0);
        x.horse(5, 24, 1, 2);
        for (int p = 0; p < 7; p++) {
            int[] due = {0, 0, 0, 0, -1};
            for (int what = 0; what < 5; what++) {
                CHECK.due("soonest(" + p + ", " + p + ", " + what + ")", x.soonest(p, p, what), due[what]);
            }
            CHECK.due("piece(" + p + ", " + p + ", 0)", x.piece(p, p, 0), -1);
        }
    }

    /** As many PIECES as there ever are, 6; each has its number, and behind the last one there is none. */
    private static void eachPieceOfAll() {
        HorsesOwnWays x = new HorsesOwnWays();
        for (int h = 0; h < 6; h++) {
            x.horse(0, 10 * h + h + 1, 1, 0);
        }
        x.horse(0, 60, 1, 0);
        int[] due = {6, 63, 0, 6, 0};
        for (int what = 0; what < 5; what++) {
            CHECK.due("soonest(0, 6, " + what + ") by six", x.soonest(0, 6, what), due[what]);
        }
        for (int i = 0; i < 8; i++) {
            CHECK.due("piece(0, 6, " + i + ") by six", x.piece(0, 6, i), i < 6 ? 11 * i + 1 : -1);
        }
        CHECK.due("soonest(6, 5, 1), by the seventh ahead", x.soonest(6, 5, 1), 64 + 31);
        CHECK.due("soonest(6, 5, 4), the seventh first", x.soonest(6, 5, 4), 6);
        CHECK.due("piece(6, 5, 0), by the seventh", x.piece(6, 5, 0), 60);
        for (int a = 0; a < 7; a++) {
            for (int b = 0; b < 7; b++) {
                CHECK.due("PIECES of a ring", x.soonest(a, b, 3), (b - a + 7) % 7);
                CHECK.due("the first HORSE of a ring", x.soonest(a, b, 4), a == b ? -1 : a);
                CHECK.due("the first PIECE of a ring", x.piece(a, b, 0), a == b ? -1 : 10 * a + (a + 1) % 7);
            }
        }
    }

    /** Of like HORSES the first by numbers, of like sooner ones the sooner; on foot comes behind all. */
    private static void likeHorses() {
        HorsesOwnWays x = new HorsesOwnWays();
        for (int h = 0; h < 7; h++) {
            x.horse(0, 6, 180, 0);
        }
        CHECK.due("seven as soon as on foot", x.piece(0, 6, 0), 6);
        for (int h = 0; h < 7; h++) {
            CHECK.due("the first of those as soon", x.piece(0, 6, 0), 10 * h + 6);
            x.stand(h, 1);
        }
        CHECK.due("on foot, all being one minute later", x.piece(0, 6, 0), 76);
        x.stand(6, 0);
        CHECK.due("the last one as soon as on foot", x.piece(0, 6, 0), 66);
    }

    private static void bothOfAll() {
        HorsesOwnWays x = new HorsesOwnWays();
        for (int r = 0; r < 4; r++) {
            x.ride(r, 6);
        }
        int[] none = {90, 180, 0};
        for (int what = 0; what < 3; what++) {
            CHECK.due("both(3, 3, " + what + ") without HORSES", x.both(3, 3, what), none[what]);
        }
        for (int h = 0; h < 7; h++) {
            x.horse(0, h < 4 ? 10 * h + 6 : 65, 10 + h, 0);
        }
        // From 3 by HORSE 3 13, without it from 3 on foot to 2 and by HORSE 2 42.
        CHECK.due("both(3, 3, 0)", x.both(3, 3, 0), 42);
        CHECK.due("both(3, 3, 1)", x.both(3, 3, 1), 55);
        CHECK.due("both(3, 3, 2), the least as bits", x.both(3, 3, 2), 4);
        CHECK.due("both(0, 3, 2), the least as bits", x.both(0, 3, 2), 1);
        CHECK.due("both(3, 0, 2), the least as bits", x.both(3, 0, 2), 8);
        HorsesOwnWays y = new HorsesOwnWays();
        y.ride(0, 6);
        y.ride(6, 0);
        for (int h = 0; h < 6; h++) {
            y.horse(0, 10 * h + h + 1, 1, 0);
        }
        y.horse(0, 65, 1, 0);
        CHECK.due("both(0, 1, 2): all but the last one", y.both(0, 1, 2), 63);
        CHECK.due("both(1, 0, 2): the last one alone", y.both(1, 0, 2), 64);
        // 6 to 5 by the last one, 5 to 0 on foot
        CHECK.due("both(1, 0, 0)", y.both(1, 0, 0), 151);
    }

    private static void worthOfAll() {
        HorsesOwnWays x = new HorsesOwnWays();
        for (int h = 0; h < 7; h++) {
            x.horse(0, 6 == h ? 60 : 10 * h + 6, 10, 0);
        }
        for (int h = 0; h < 7; h++) {
            CHECK.due("worth(" + h + ") without RIDES", x.worth(h), 0);
        }
        x.ride(6, 0);
        x.ride(0, 6);
        // without HORSE 0 from 0 on foot to 1 and by HORSE 1: 40
        CHECK.due("worth(0)", x.worth(0), 30);
        CHECK.due("worth(1)", x.worth(1), 0);
        CHECK.due("worth(6)", x.worth(6), 170);
        CHECK.due("all() then", x.all(), 20);
    }
}
