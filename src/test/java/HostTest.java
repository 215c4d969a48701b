/** Promises 37 to 41: sheet, cell, copy, horsesBy, taken. */
public final class HostTest {
    private static final Check CHECK = new Check("the host");

    public static void main(String[] args) {
        sheet();
        cell();
        copy();
        horsesBy();
        horsesByRefusals();
        taken();
        CHECK.finish();
    }

    /** Tells SHEET s, whose numbers are SOON of 7 PLACES or aren't. */
    private static void sheet() {
        HorsesOwnWays x = new HorsesOwnWays();
        CHECK.due("sheet(4, 0, 1)", x.sheet(4, 0, 1), -2);
        CHECK.due("sheet(-1, 0, 1)", x.sheet(-1, 0, 1), -2);
        CHECK.due("sheet(0, 3, 1)", x.sheet(0, 3, 1), -2);
        CHECK.due("sheet(0, -2, 1)", x.sheet(0, -2, 1), -2);
        CHECK.due("sheet(0, 0, 41)", x.sheet(0, 0, 41), -2);
        CHECK.due("sheet(0, 3, -1): BAD first", x.sheet(0, 3, -1), -2);
        CHECK.due("sheet(0, 0, -1)", x.sheet(0, 0, -1), -14);
        CHECK.due("cell(0, 0, 0) of a missing one", x.cell(0, 0, 0), -11);
        for (int sort = 0; sort < 3; sort++) {
            CHECK.due("sheet(3, " + sort + ", 40)", x.sheet(3, sort, 40), 1);
            CHECK.due("cell(3, 39, 1)", x.cell(3, 39, 1), 1);
            CHECK.due("cell(3, 40, 1)", x.cell(3, 40, 1), -12);
        }
        CHECK.due("sheet(3, 2, -1)", x.sheet(3, 2, -1), -14);
        CHECK.due("cell(3, 39, 1) still", x.cell(3, 39, 1), 1);
        CHECK.due("sheet(3, 2, 0)", x.sheet(3, 2, 0), 1);
        CHECK.due("cell(3, 0, 1)", x.cell(3, 0, 1), -12);
        CHECK.due("sheet(3, -1, 99)", x.sheet(3, -1, 99), 1);
        CHECK.due("cell(3, 0, 1) of a missing one", x.cell(3, 0, 1), -11);
        Check.fill(x, 1, 2, 9, 9);
        x.sheet(1, 2, 4);
        x.cell(1, 1, 12);
        x.cell(1, 2, 1);
        CHECK.due("horsesBy of a row that was all 0", x.horsesBy(1, 2, 0, 1), 1);
        CHECK.due("told(0, 0)", x.told(0, 0), 0);
    }

    private static void cell() {
        HorsesOwnWays x = new HorsesOwnWays();
        CHECK.due("cell(4, 0, 1)", x.cell(4, 0, 1), -2);
        CHECK.due("cell(-1, 0, 1)", x.cell(-1, 0, 1), -2);
        CHECK.due("cell(0, -1, 1): missing first", x.cell(0, -1, 1), -11);
        x.sheet(0, 0, 4);
        CHECK.due("cell(0, -1, 1)", x.cell(0, -1, 1), -12);
        CHECK.due("cell(0, 4, 1)", x.cell(0, 4, 1), -12);
        CHECK.due("cell(0, max, 1)", x.cell(0, Integer.MAX_VALUE, 1), -12);
        int[] sizes = {256, 65536};
        for (int sort = 0; sort < 2; sort++) {
            Check.fill(x, 0, sort, sizes[sort] * 7 + 5, 12 - sizes[sort], sizes[sort] + 70, sizes[sort] * 1000 + 3);
            CHECK.due("horsesBy of the lowest bits", x.horsesBy(0, sort, 0, 1), 1);
            CHECK.due("told(0)", x.told(sort, 0), 5);
            CHECK.due("told(2)", x.told(sort, 2), 2);
            CHECK.due("told(3)", x.told(sort, 3), 70);
            CHECK.due("told(4)", x.told(sort, 4), 3);
        }
        Check.fill(x, 0, 2, 65536, 12, 70, 3);
        CHECK.due("horsesBy of ints, whole", x.horsesBy(0, 2, 0, 1), 0);
        Check.fill(x, 0, 1, 0, 12, 999, 3);
        CHECK.due("horsesBy of shorts above 255", x.horsesBy(0, 1, 0, 1), 1);
        CHECK.due("told(2, 3)", x.told(2, 3), 999);
        Check.fill(x, 0, 0, 0, 12, 200, 3);
        CHECK.due("horsesBy of bytes: 200 is -56, as Java's bytes are", x.horsesBy(0, 0, 0, 1), 0);
    }

    private static void copy() {
        HorsesOwnWays x = new HorsesOwnWays();
        Check.fill(x, 0, 2, 0, 12, 5, 6, 7);
        Check.fill(x, 1, 2, 0, 0, 0, 0);
        CHECK.due("copy(0, 0, 1, 0, 4)", x.copy(0, 0, 1, 0, 4), 4);
        CHECK.due("horsesBy(1) then", x.horsesBy(1, 2, 0, 1), 1);
        CHECK.due("told(0, 3)", x.told(0, 3), 5);
        Check.fill(x, 0, 2, 3, 45, 6, 7, 0, 0);
        CHECK.due("copy(0, 0, 0, 1, 4) upon itself", x.copy(0, 0, 0, 1, 4), 4);
        CHECK.due("horsesBy(0) from 1 on", x.horsesBy(0, 2, 1, 1), 1);
        CHECK.due("told(1, 0)", x.told(1, 0), 3);
        CHECK.due("told(1, 4)", x.told(1, 4), 7);
        CHECK.due("copy(0, 1, 0, 0, 4) upon itself", x.copy(0, 1, 0, 0, 4), 4);
        CHECK.due("horsesBy(0) from 0 on", x.horsesBy(0, 2, 0, 1), 1);
        CHECK.due("told(2, 1)", x.told(2, 1), 4);
        int[][] outside = {{-1, 0, 1}, {0, -1, 1}, {0, 0, -1}, {0, 0, 5}, {3, 0, 4}, {0, 1, 4}, {7, 0, 0}, {0, 5, 0},
                {Integer.MAX_VALUE, 0, 1}, {0, Integer.MAX_VALUE, 1}, {1, 0, Integer.MAX_VALUE}};
        for (int[] o : outside) {
            CHECK.due("copy of " + java.util.Arrays.toString(o), x.copy(0, o[0], 1, o[1], o[2]), -12);
        }
        CHECK.due("copy(0, 6, 1, 4, 0): none, at the ends", x.copy(0, 6, 1, 4, 0), 0);
        CHECK.due("copy(4, 0, 0, 0, 1)", x.copy(4, 0, 0, 0, 1), -2);
        CHECK.due("copy(2, 0, -1, 0, 1)", x.copy(2, 0, -1, 0, 1), -2);
        CHECK.due("copy(2, 0, 0, 0, 1)", x.copy(2, 0, 0, 0, 1), -11);
        CHECK.due("copy(0, 0, 2, 0, 1)", x.copy(0, 0, 2, 0, 1), -11);
        x.sheet(2, 1, 2);
        CHECK.due("copy(0, 9, 2, 0, 1): another sort first", x.copy(0, 9, 2, 0, 1), -13);
    }

    private static void horsesBy() {
        HorsesOwnWays x = new HorsesOwnWays();
        Check.fill(x, 0, 1, 9, 1, 12, 500, 4, 6, 12, 500, 4, 2, 34, 7, 8, 0);
        CHECK.due("horsesBy(0, 1, 1, 0): none of them", x.horsesBy(0, 1, 1, 0), 0);
        CHECK.due("horsesBy(0, 1, 1, 3), one of them BAD", x.horsesBy(0, 1, 1, 3), 2);
        int[][] due = {{1, 1, 2, 500, 4}, {2, 3, 4, 7, 8}};
        for (int h = 0; h < 2; h++) {
            for (int what = 0; what < 5; what++) {
                CHECK.due("told(" + h + ", " + what + ")", x.told(h, what), due[h][what]);
            }
        }
        CHECK.due("horsesBy(0, 1, 9, 2): outside behind one", x.horsesBy(0, 1, 9, 2), -12);
        CHECK.due("count(0): what stood ahead came", x.count(0), 3);
        CHECK.due("horsesBy(0, 1, 1, 4)", x.horsesBy(0, 1, 1, 4), -12);
        CHECK.due("count(0) then", x.count(0), 5);
        CHECK.due("horsesBy(0, 1, 1, 3)", x.horsesBy(0, 1, 1, 3), 2);
        CHECK.due("horsesBy(0, 1, 1, 3) while all are there", x.horsesBy(0, 1, 1, 3), 0);
        CHECK.due("horsesBy(0, 1, 1, 4) while all are there", x.horsesBy(0, 1, 1, 4), -12);
    }

    private static void horsesByRefusals() {
        HorsesOwnWays x = new HorsesOwnWays();
        x.sheet(0, 1, 8);
        CHECK.due("horsesBy(4, 1, 0, 1)", x.horsesBy(4, 1, 0, 1), -2);
        CHECK.due("horsesBy(-1, 1, 0, 1)", x.horsesBy(-1, 1, 0, 1), -2);
        CHECK.due("horsesBy(0, 3, 0, 1)", x.horsesBy(0, 3, 0, 1), -2);
        CHECK.due("horsesBy(0, -1, 0, 1)", x.horsesBy(0, -1, 0, 1), -2);
        CHECK.due("horsesBy(0, 1, 0, 8)", x.horsesBy(0, 1, 0, 8), -2);
        CHECK.due("horsesBy(0, 1, 0, -1)", x.horsesBy(0, 1, 0, -1), -2);
        CHECK.due("horsesBy(1, 1, 0, 1)", x.horsesBy(1, 1, 0, 1), -11);
        CHECK.due("horsesBy(0, 2, 99, 1): another sort first", x.horsesBy(0, 2, 99, 1), -13);
        CHECK.due("horsesBy(0, 1, -1, 1)", x.horsesBy(0, 1, -1, 1), -12);
        CHECK.due("horsesBy(0, 1, 5, 1)", x.horsesBy(0, 1, 5, 1), -12);
        CHECK.due("horsesBy(0, 1, max, 7)", x.horsesBy(0, 1, Integer.MAX_VALUE, 7), -12);
        CHECK.due("horsesBy(0, 1, min, 7)", x.horsesBy(0, 1, Integer.MIN_VALUE, 7), -12);
        CHECK.due("horsesBy(0, 1, 4, 1): left out", x.horsesBy(0, 1, 4, 1), 0);
        CHECK.due("count(0) then", x.count(0), 0);
    }

    private static void taken() {
        HorsesOwnWays x = new HorsesOwnWays();
        CHECK.due("taken(0, 6) of none", x.taken(0, 6), -11);
        CHECK.due("taken(4, 0) of none", x.taken(4, 0), -11);
        x.ride(6, 2);
        for (int kind = 0; kind < 6; kind++) {
            x.horse(kind, 1, 1, 0);
        }
        boolean[][] isOne = {
            {true, false, false, false, false, false},
            {true, true, false, false, false, false},
            {true, false, true, false, false, false},
            {true, true, false, true, false, false},
            {true, false, true, false, true, false},
            {true, false, false, false, false, true}};
        for (int h = 0; h < 6; h++) {
            for (int kind = 0; kind < 6; kind++) {
                CHECK.due("taken(" + (4 + h) + ", " + kind + ")", x.taken(4 + h, kind), isOne[h][kind] ? h : -13);
            }
            CHECK.due("taken(" + (4 + h) + ", 6)", x.taken(4 + h, 6), -13);
            CHECK.due("taken(0, " + h + ")", x.taken(0, h), -13);
        }
        CHECK.due("taken(0, 6)", x.taken(0, 6), 62);
        CHECK.due("taken(3, 6)", x.taken(3, 6), -11);
        CHECK.due("taken(10, 0)", x.taken(10, 0), -11);
        CHECK.due("taken(11, 0)", x.taken(11, 0), -12);
        CHECK.due("taken(-1, 0)", x.taken(-1, 0), -12);
        CHECK.due("taken(-1, 7): BAD first", x.taken(-1, 7), -2);
        CHECK.due("taken(0, -1)", x.taken(0, -1), -2);
    }
}
