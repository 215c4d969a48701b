/** Promises 1 to 6: a new object, path, pathTold, ride, rideTold, count. */
public final class PlacesTest {
    private static final Check CHECK = new Check("places, rides");

    public static void main(String[] args) {
        newObject();
        path();
        pathTold();
        ride();
        rideTold();
        count();
        CHECK.finish();
    }

    private static void newObject() {
        HorsesOwnWays x = new HorsesOwnWays();
        CHECK.due("count(0) of a new one", x.count(0), 0);
        CHECK.due("count(1) of a new one", x.count(1), 0);
        CHECK.due("count(2) of a new one", x.count(2), 1);
        CHECK.due("count(3) of a new one", x.count(3), 0);
        CHECK.due("count(4) of a new one", x.count(4), 0);
        for (int s = 0; s < 4; s++) {
            CHECK.due("cell of a missing SHEET", x.cell(s, 0, 0), -11);
        }
        CHECK.due("back() of a new one", x.back(), -3);
        for (int a = 0; a < 7; a++) {
            for (int b = 0; b < 7; b++) {
                CHECK.due("pathTold(" + a + ", " + b + ") of a new one", x.pathTold(a, b), 30 * Math.abs(a - b));
            }
        }
    }

    private static void path() {
        HorsesOwnWays x = new HorsesOwnWays();
        CHECK.due("path(2, 5, 1)", x.path(2, 5, 1), 90);
        CHECK.due("path(5, 2, 999)", x.path(5, 2, 999), 1);
        CHECK.due("path(2, 5, 7)", x.path(2, 5, 7), 999);
        CHECK.due("path(2, 5, 0)", x.path(2, 5, 0), -7);
        CHECK.due("path(2, 5, 1000)", x.path(2, 5, 1000), -7);
        CHECK.due("path(2, 2, 5)", x.path(2, 2, 5), -5);
        CHECK.due("path(-1, 2, 5)", x.path(-1, 2, 5), -5);
        CHECK.due("path(2, 7, 5)", x.path(2, 7, 5), -5);
        CHECK.due("path(2, 7, 0), -5 first", x.path(2, 7, 0), -5);
        CHECK.due("pathTold(5, 2) then", x.pathTold(5, 2), 7);
        CHECK.due("soonest(2, 5, 0) then", x.soonest(2, 5, 0), 7);
    }

    private static void pathTold() {
        HorsesOwnWays x = new HorsesOwnWays();
        x.path(0, 6, 333);
        CHECK.due("pathTold(0, 6)", x.pathTold(0, 6), 333);
        CHECK.due("pathTold(6, 0)", x.pathTold(6, 0), 333);
        CHECK.due("pathTold(6, 6)", x.pathTold(6, 6), 0);
        CHECK.due("pathTold(7, 7)", x.pathTold(7, 7), -5);
        CHECK.due("pathTold(0, -1)", x.pathTold(0, -1), -5);
        CHECK.due("pathTold(max, 0)", x.pathTold(Integer.MAX_VALUE, 0), -5);
    }

    private static void ride() {
        HorsesOwnWays x = new HorsesOwnWays();
        CHECK.due("ride(3, 3)", x.ride(3, 3), -2);
        CHECK.due("ride(-1, 3)", x.ride(-1, 3), -2);
        CHECK.due("ride(3, 7)", x.ride(3, 7), -2);
        for (int r = 0; r < 4; r++) {
            CHECK.due("ride(6, 0)", x.ride(6, 0), r);
        }
        CHECK.due("ride(6, 0), a fifth", x.ride(6, 0), -4);
        CHECK.due("ride(6, 6), a fifth: BAD first", x.ride(6, 6), -2);
    }

    private static void rideTold() {
        HorsesOwnWays x = new HorsesOwnWays();
        CHECK.due("rideTold(0, 0) of none", x.rideTold(0, 0), -5);
        x.ride(4, 1);
        CHECK.due("rideTold(0, 0)", x.rideTold(0, 0), 4);
        CHECK.due("rideTold(0, 1)", x.rideTold(0, 1), 1);
        CHECK.due("rideTold(0, 2)", x.rideTold(0, 2), -7);
        CHECK.due("rideTold(0, -1)", x.rideTold(0, -1), -7);
        CHECK.due("rideTold(1, 2), -5 first", x.rideTold(1, 2), -5);
        CHECK.due("rideTold(-1, 0)", x.rideTold(-1, 0), -5);
    }

    private static void count() {
        HorsesOwnWays x = new HorsesOwnWays();
        x.horse(0, 1, 1, 0);
        x.horse(0, 1, 1, 0);
        x.ride(0, 1);
        Check.lawAgain(x);
        Check.lawAgain(x);
        x.force(1);
        Check.feedAll(x, "out 1");
        CHECK.due("count(0)", x.count(0), 2);
        CHECK.due("count(1)", x.count(1), 1);
        CHECK.due("count(2)", x.count(2), 3);
        CHECK.due("count(3)", x.count(3), 1);
        CHECK.due("count(4)", x.count(4), 5);
        CHECK.due("count(5)", x.count(5), -2);
        CHECK.due("count(-1)", x.count(-1), -2);
    }
}
