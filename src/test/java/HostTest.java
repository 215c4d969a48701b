/** Promises 37 to 41: sheet, cell, copy, horsesBy, taken. */
public final class HostTest {
    private static final Check CHECK = new Check("the host");

    public static void main(String[] args) {
        sheet();
        cell();
        copy();
        horsesBy();
        horsesByRefusals();
        taken();
        lowestBits();
        allZeroAnew();
        eachCopy();
        horsesByTheirNumbers();
        takenOfAll();
        CHECK.finish();
    }

    /** Tells SHEET s, whose numbers are SOON of 7 PLACES or aren't. */
    private static void sheet() {
        HorsesOwnWays x = new HorsesOwnWays();
        CHECK.due("sheet(4, 0, 1)", x.sheet(4, 0, 1), -2);
        CHECK.due("sheet(-1, 0, 1)", x.sheet(-1, 0, 1), -2);
        CHECK.due("sheet(0, 3, 1)", x.sheet(0, 3, 1), -2);
        CHECK.due("sheet(0, -2, 1)", x.sheet(0, -2, 1), -2);
        CHECK.due("sheet(0, 0, 41)", x.sheet(0, 0, 41), -2);
        CHECK.due("sheet(0, 3, -1): BAD first", x.sheet(0, 3, -1), -2);
        CHECK.due("sheet(0, 0, -1)", x.sheet(0, 0, -1), -14);
        CHECK.due("cell(0, 0, 0) of a missing one", x.cell(0, 0, 0), -11);
        for (int sort = 0; sort < 3; sort++) {
            CHECK.due("sheet(3, " + sort + ", 40)", x.sheet(3, sort, 40), 1);
            CHECK.due("cell(3, 39, 1)", x.cell(3, 39, 1), 1);
            CHECK.due("cell(3, 40, 1)", x.cell(3, 40, 1), -12);
        }
        CHECK.due("sheet(3, 2, -1)", x.sheet(3, 2, -1), -14);
        CHECK.due("cell(3, 39, 1) still", x.cell(3, 39, 1), 1);
        CHECK.due("sheet(3, 2, 0)", x.sheet(3, 2, 0), 1);
        CHECK.due("cell(3, 0, 1)", x.cell(3, 0, 1), -12);
        CHECK.due("sheet(3, -1, 99)", x.sheet(3, -1, 99), 1);
        CHECK.due("cell(3, 0, 1) of a missing one", x.cell(3, 0, 1), -11);
        Check.fill(x, 1, 2, 9, 9);
        x.sheet(1, 2, 4);
        x.cell(1, 1, 12);
        x.cell(1, 2, 1);
        CHECK.due("horsesBy of a row that was all 0", x.horsesBy(1, 2, 0, 1), 1);
        CHECK.due("told(0, 0)", x.told(0, 0), 0);
    }

    private static void cell() {
        HorsesOwnWays x = new HorsesOwnWays();
        CHECK.due("cell(4, 0, 1)", x.cell(4, 0, 1), -2);
        CHECK.due("cell(-1, 0, 1)", x.cell(-1, 0, 1), -2);
        CHECK.due("cell(0, -1, 1): missing first", x.cell(0, -1, 1), -11);
        x.sheet(0, 0, 4);
        CHECK.due("cell(0, -1, 1)", x.cell(0, -1, 1), -12);
        CHECK.due("cell(0, 4, 1)", x.cell(0, 4, 1), -12);
        CHECK.due("cell(0, max, 1)", x.cell(0, Integer.MAX_VALUE, 1), -12);
        int[] sizes = {256, 65536};
        for (int sort = 0; sort < 2; sort++) {
            Check.fill(x, 0, sort, sizes[sort] * 7 + 5, 12 - sizes[sort], sizes[sort] + 70, sizes[sort] * 1000 + 3);
            CHECK.due("horsesBy of the lowest bits", x.horsesBy(0, sort, 0, 1), 1);
            CHECK.due("told(0)", x.told(sort, 0), 5);
            CHECK.due("told(2)", x.told(sort, 2), 2);
            CHECK.due("told(3)", x.told(sort, 3), 70);
            CHECK.due("told(4)", x.told(sort, 4), 3);
        }
        Check.fill(x, 0, 2, 65536, 12, 70, 3);
        CHECK.due("horsesBy of ints, whole", x.horsesBy(0, 2, 0, 1), 0);
        Check.fill(x, 0, 1, 0, 12, 999, 3);
        CHECK.due("horsesBy of shorts above 255", x.horsesBy(0, 1, 0, 1), 1);
        CHECK.due("told(2, 3)", x.told(2, 3), 999);
        Check.fill(x, 0, 0, 0, 12, 200, 3);
        CHECK.due("horsesBy of bytes: 200 is -56, as Java's bytes are", x.horsesBy(0, 0, 0, 1), 0);
    }

    private static void copy() {
        HorsesOwnWays x = new HorsesOwnWays();
        Check.fill(x, 0, 2, 0, 12, 5, 6, 7);
        Check.fill(x, 1, 2, 0, 0, 0, 0);
        CHECK.due("copy(0, 0, 1, 0, 4)", x.copy(0, 0, 1, 0, 4), 4);
        CHECK.due("horsesBy(1) then", x.horsesBy(1, 2, 0, 1), 1);
        CHECK.due("told(0, 3)", x.told(0, 3), 5);
        Check.fill(x, 0, 2, 3, 45, 6, 7, 0, 0);
        CHECK.due("copy(0, 0, 0, 1, 4) upon itself", x.copy(0, 0, 0, 1, 4), 4);
        CHECK.due("horsesBy(0) from 1 on", x.horsesBy(0, 2, 1, 1), 1);
        CHECK.due("told(1, 0)", x.told(1, 0), 3);
        CHECK.due("told(1, 4)", x.told(1, 4), 7);
        CHECK.due("copy(0, 1, 0, 0, 4) upon itself", x.copy(0, 1, 0, 0, 4), 4);
        CHECK.due("horsesBy(0) from 0 on", x.horsesBy(0, 2, 0, 1), 1);
        CHECK.due("told(2, 1)", x.told(2, 1), 4);
        int[][] outside = {{-1, 0, 1}, {0, -1, 1}, {0, 0, -1}, {0, 0, 5}, {3, 0, 4}, {0, 1, 4}, {7, 0, 0}, {0, 5, 0},
                {Integer.MAX_VALUE, 0, 1}, {0, Integer.MAX_VALUE, 1}, {1, 0, Integer.MAX_VALUE}};
        for (int[] o : outside) {
            CHECK.due("copy of " + java.util.Arrays.toString(o), x.copy(0, o[0], 1, o[1], o[2]), -12);
        }
        CHECK.due("copy(0, 6, 1, 4, 0): none, at the ends", x.copy(0, 6, 1, 4, 0), 0);
        CHECK.due("copy(4, 0, 0, 0, 1)", x.copy(4, 0, 0, 0, 1), -2);
        CHECK.due("copy(2, 0, -1, 0, 1)", x.copy(2, 0, -1, 0, 1), -2);
        CHECK.due("copy(2, 0, 0, 0, 1)", x.copy(2, 0, 0, 0, 1), -11);
        CHECK.due("copy(0, 0, 2, 0, 1)", x.copy(0, 0, 2, 0, 1), -11);
        x.sheet(2, 1, 2);
        CHECK.due("copy(0, 9, 2, 0, 1): another sort first", x.copy(0, 9, 2, 0, 1), -13);
    }

    private static void horsesBy() {
        HorsesOwnWays x = new HorsesOwnWays();
        Check.fill(x, 0, 1, 9, 1, 12, 500, 4, 6, 12, 500, 4, 2, 34, 7, 8, 0);
        CHECK.due("horsesBy(0, 1, 1, 0): none of them", x.horsesBy(0, 1, 1, 0), 0);
        CHECK.due("horsesBy(0, 1, 1, 3), one of them BAD", x.horsesBy(0, 1, 1, 3), 2);
        int[][] due = {{1, 1, 2, 500, 4}, {2, 3, 4, 7, 8}};
        for (int h = 0; h < 2; h++) {
            for (int what = 0; what < 5; what++) {
                CHECK.due("told(" + h + ", " + what + ")", x.told(h, what), due[h][what]);
            }
        }
        CHECK.due("horsesBy(0, 1, 9, 2): outside behind one", x.horsesBy(0, 1, 9, 2), -12);
        CHECK.due("count(0): what stood ahead came", x.count(0), 3);
        CHECK.due("horsesBy(0, 1, 1, 4)", x.horsesBy(0, 1, 1, 4), -12);
        CHECK.due("count(0) then", x.count(0), 5);
        CHECK.due("horsesBy(0, 1, 1, 3)", x.horsesBy(0, 1, 1, 3), 2);
        CHECK.due("horsesBy(0, 1, 1, 3) while all are there", x.horsesBy(0, 1, 1, 3), 0);
        CHECK.due("horsesBy(0, 1, 1, 4) while all are there", x.horsesBy(0, 1, 1, 4), -12);
    }

    private static void horsesByRefusals() {
        HorsesOwnWays x = new HorsesOwnWays();
        x.sheet(0, 1, 8);
        CHECK.due("horsesBy(4, 1, 0, 1)", x.horsesBy(4, 1, 0, 1), -2);
        CHECK.due("horsesBy(-1, 1, 0, 1)", x.horsesBy(-1, 1, 0, 1), -2);
        CHECK.due("horsesBy(0, 3, 0, 1)", x.horsesBy(0, 3, 0, 1), -2);
        CHECK.due("horsesBy(0, -1, 0, 1)", x.horsesBy(0, -1, 0, 1), -2);
        CHECK.due("horsesBy(0, 1, 0, 8)", x.horsesBy(0, 1, 0, 8), -2);
        CHECK.due("horsesBy(0, 1, 0, -1)", x.horsesBy(0, 1, 0, -1), -2);
        CHECK.due("horsesBy(1, 1, 0, 1)", x.horsesBy(1, 1, 0, 1), -11);
        CHECK.due("horsesBy(0, 2, 99, 1): another sort first", x.horsesBy(0, 2, 99, 1), -13);
        CHECK.due("horsesBy(0, 1, -1, 1)", x.horsesBy(0, 1, -1, 1), -12);
        CHECK.due("horsesBy(0, 1, 5, 1)", x.horsesBy(0, 1, 5, 1), -12);
        CHECK.due("horsesBy(0, 1, max, 7)", x.horsesBy(0, 1, Integer.MAX_VALUE, 7), -12);
        CHECK.due("horsesBy(0, 1, min, 7)", x.horsesBy(0, 1, Integer.MIN_VALUE, 7), -12);
        CHECK.due("horsesBy(0, 1, 4, 1): left out", x.horsesBy(0, 1, 4, 1), 0);
        CHECK.due("count(0) then", x.count(0), 0);
    }

    private static void taken() {
        HorsesOwnWays x = new HorsesOwnWays();
        CHECK.due("taken(0, 6) of none", x.taken(0, 6), -11);
        CHECK.due("taken(4, 0) of none", x.taken(4, 0), -11);
        x.ride(6, 2);
        for (int kind = 0; kind < 6; kind++) {
            x.horse(kind, 1, 1, 0);
        }
        boolean[][] isOne = {
            {true, false, false, false, false, false},
            {true, true, false, false, false, false},
            {true, false, true, false, false, false},
            {true, true, false, true, false, false},
            {true, false, true, false, true, false},
            {true, false, false, false, false, true}};
        for (int h = 0; h < 6; h++) {
            for (int kind = 0; kind < 6; kind++) {
                CHECK.due("taken(" + (4 + h) + ", " + kind + ")", x.taken(4 + h, kind), isOne[h][kind] ? h : -13);
            }
            CHECK.due("taken(" + (4 + h) + ", 6)", x.taken(4 + h, 6), -13);
            CHECK.due("taken(0, " + h + ")", x.taken(0, h), -13);
        }
        CHECK.due("taken(0, 6)", x.taken(0, 6), 62);
        CHECK.due("taken(3, 6)", x.taken(3, 6), -11);
        CHECK.due("taken(10, 0)", x.taken(10, 0), -11);
        CHECK.due("taken(11, 0)", x.taken(11, 0), -12);
        CHECK.due("taken(-1, 0)", x.taken(-1, 0), -12);
        CHECK.due("taken(-1, 7): BAD first", x.taken(-1, 7), -2);
        CHECK.due("taken(0, -1)", x.taken(0, -1), -2);
    }

    /** What a number of a SHEET is, as far as a HORSE can have it as TOLD; 0: it can't. */
    private static int numberBy(int sort, int v) {
        HorsesOwnWays x = new HorsesOwnWays();
        Check.fill(x, 0, sort, 0, 12, v, 0);
        return x.horsesBy(0, sort, 0, 1) == 1 ? x.told(0, 3) : 0;
    }

    /** Bytes keep their lowest 8, shorts their lowest 16 bits, ints all of them. */
    private static void lowestBits() {
        int[] turns = {0, 1, 2, 3, 100, 8388607, -1, -2, -8388608};
        for (int low = 0; low < 256; low++) {
            for (int turn : turns) {
                int due = low < 128 ? low : 0;
                CHECK.due("a byte of " + (256 * turn + low), numberBy(0, 256 * turn + low), due);
            }
        }
        for (int low : new int[] {0, 1, 127, 128, 255, 256, 998, 999, 1000, 32767, 32768, 65535}) {
            for (int turn : new int[] {0, 1, 2, 32767, -1, -32768}) {
                int due = low <= 999 ? low : 0;
                CHECK.due("a short of " + (65536 * turn + low), numberBy(1, 65536 * turn + low), due);
                CHECK.due("an int of " + (65536 * turn + low), numberBy(2, 65536 * turn + low), turn == 0 ? due : 0);
            }
        }
    }

    /** A row is all 0 whatever stood there, and longer ones, too. */
    private static void allZeroAnew() {
        for (int sort = 0; sort < 3; sort++) {
            HorsesOwnWays x = new HorsesOwnWays();
            int[] ones = new int[40];
            java.util.Arrays.fill(ones, 71);
            Check.fill(x, 0, 2, ones);
            CHECK.due("sheet of 7", x.sheet(0, sort, 7), 1);
            CHECK.due("judge of 0 first", x.judge(0, 0, 0), 0);
            for (int i = 0; i < 7; i++) {
                for (int p = 0; p < i; p++) {
                    x.cell(0, p, p % 2 == 0 ? 71 : 70);
                }
                CHECK.due("judge of 0 at " + i, x.judge(0, 0, 0), i);
            }
            Check.fill(x, 0, 2, ones);
            x.sheet(0, sort, 3);
            x.sheet(0, sort, 40);
            for (int i = 0; i < 40; i++) {
                CHECK.due("judge of 0 at " + i + " of 40", x.judge(0, 0, 0), i);
                x.cell(0, i, i % 2 == 0 ? 71 : 70);
            }
            x.sheet(0, -1, 40);
            CHECK.due("a missing one", x.judge(0, 0, 0), -11);
        }
    }

    /** Each i, j, n of a SHEET of 7 upon itself: the numbers come as they were ahead of it. */
    private static void eachCopy() {
        for (int i = -1; i <= 8; i++) {
            for (int j = -1; j <= 8; j++) {
                for (int n = -1; n <= 8; n++) {
                    HorsesOwnWays x = new HorsesOwnWays();
                    int[] numbers = {0, 61, 62, 63, 64, 65, 66};
                    Check.fill(x, 0, 2, numbers);
                    boolean isInside = i >= 0 && j >= 0 && n >= 0 && i + n <= 7 && j + n <= 7;
                    CHECK.due("copy(0, " + i + ", 0, " + j + ", " + n + ")", x.copy(0, i, 0, j, n), isInside ? n : -12);
                    int[] then = numbers.clone();
                    for (int k = 0; isInside && k < n; k++) {
                        then[j + k] = numbers[i + k];
                    }
                    CHECK.due("whether it is then as it should", isThen(x, then) ? 1 : 0, 1);
                }
            }
        }
    }

    /** Whether the numbers of SHEET 0, one by one TOLD of a HORSE, are these; 0: none can have it. */
    private static boolean isThen(HorsesOwnWays x, int[] then) {
        boolean areAlike = true;
        x.image();
        for (int i = 0; i < 7; i++) {
            Check.fill(x, 1, 2, 0, 12, 0, 0);
            x.copy(0, i, 1, 2, 1);
            int came = x.horsesBy(1, 2, 0, 1);
            int told = came == 1 ? x.told(0, 3) : 0;
            areAlike &= told == then[i];
            x.back();
        }
        return areAlike;
    }

    /** n is 0 .. 7, four by four; what is refused is left out, and those behind it come. */
    private static void horsesByTheirNumbers() {
        int[] rows = {0, 1, 1, 0, 6, 1, 1, 0, 1, 12, 999, 9, 0, 11, 1, 0, 2, 23, 5, 5, 0, 12, 0, 0, 5, 65, 7, 8, 0, 12, 1, 10,
            3, 60, 9, 3, 4, 6, 10, 1};
        int[] came = {0, 1, 1, 2, 2, 3, 3, 4};
        for (int n = 0; n <= 7; n++) {
            HorsesOwnWays x = new HorsesOwnWays();
            Check.fill(x, 3, 2, rows);
            CHECK.due("horsesBy(3, 2, 0, " + n + ")", x.horsesBy(3, 2, 0, n), came[n]);
            CHECK.due("HORSES then", x.count(0), came[n]);
        }
        HorsesOwnWays y = new HorsesOwnWays();
        Check.fill(y, 3, 2, rows);
        CHECK.due("horsesBy(3, 2, 12, 7)", y.horsesBy(3, 2, 12, 7), 4);
        CHECK.due("KIND of the last one", y.told(3, 0), 4);
        CHECK.due("horsesBy(3, 2, 13, 7): outside at last", y.horsesBy(3, 2, 13, 7), -12);
        CHECK.due("horsesBy(3, 2, 16, 7): one outside", y.horsesBy(3, 2, 16, 7), -12);
        CHECK.due("those ahead came, as many as have room", y.count(0), 7);
        CHECK.due("horsesBy(3, 2, 36, 1): none has room", y.horsesBy(3, 2, 36, 1), 0);
        HorsesOwnWays z = new HorsesOwnWays();
        Check.fill(z, 3, 2, rows);
        CHECK.due("horsesBy(3, 2, 37, 1): three of four", z.horsesBy(3, 2, 37, 1), -12);
        CHECK.due("horsesBy(3, 2, 40, 1): none of four", z.horsesBy(3, 2, 40, 1), -12);
        CHECK.due("HORSES then", z.count(0), 0);
        CHECK.due("horsesBy(3, 2, 36, 2): the second outside", z.horsesBy(3, 2, 36, 2), -12);
        CHECK.due("the first came", z.count(0), 1);
        CHECK.due("its KIND", z.told(0, 0), 4);
        CHECK.due("horsesBy(3, 2, 36, 1)", z.horsesBy(3, 2, 36, 1), 1);
    }

    /** Places 0 .. 3, 4 .. 10, of which something lies at those alone that came. */
    private static void takenOfAll() {
        HorsesOwnWays x = new HorsesOwnWays();
        for (int r = 0; r <= 4; r++) {
            for (int i = 0; i < 4; i++) {
                CHECK.due("taken(" + i + ", 6) of " + r, x.taken(i, 6), i < r ? 10 * i + 6 : -11);
                CHECK.due("taken(" + i + ", 0) of " + r, x.taken(i, 0), i < r ? -13 : -11);
            }
            x.ride(r, 6);
        }
        for (int h = 0; h <= 7; h++) {
            for (int i = 0; i < 7; i++) {
                CHECK.due("taken(" + (4 + i) + ", 0) of " + h, x.taken(4 + i, 0), i < h ? i : -11);
                CHECK.due("taken(" + (4 + i) + ", 6) of " + h, x.taken(4 + i, 6), i < h ? -13 : -11);
            }
            CHECK.due("taken(11, 0) of " + h, x.taken(11, 0), -12);
            CHECK.due("taken(-1, 6) of " + h, x.taken(-1, 6), -12);
            x.horse(h % 6, 1, 1, 0);
        }
    }
}
