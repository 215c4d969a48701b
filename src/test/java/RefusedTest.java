import java.util.ArrayList;
import java.util.Arrays;
import java.util.List;

/** Each refused call of each promise, at and beyond its bounds: its answer, and that all stands as it was before. */
public final class RefusedTest {
    private static final Check CHECK = new Check("refused calls");

    private static final int E = States.EMPTY, S = States.SOME, F = States.FULL;
    private static final int LEAST = Integer.MIN_VALUE, MOST = Integer.MAX_VALUE;
    private static final long NO = HorsesOwnWays.NO;

    private static final List<List<List<Long>>> BEFORE = new ArrayList<>();

    public static void main(String[] args) {
        for (int state = E; state <= F; state++) {
            List<List<Long>> told = new ArrayList<>();
            for (int aspect = 0; aspect < States.ASPECTS; aspect++) {
                told.add(States.told(States.made(state), aspect));
            }
            BEFORE.add(told);
        }
        tellingTellsChanges();
        placesAndRides();
        theLaw();
        horses();
        soonest();
        better();
        dying();
        toldRides();
        lots();
        sheets();
        copies();
        horsesBySheets();
        takenThings();
        faultChangesTheTapeAlone();
        outsideBringsWhatStoodAhead();
        CHECK.finish();
    }

    /** Each of the rows is refused by such an object with the answer that is due. */
    private static void refused(int state, String name, long due, int[]... rows) {
        for (int[] row : rows) {
            String call = name + Arrays.toString(row) + " of " + States.NAMES[state];
            for (int aspect = 0; aspect < States.ASPECTS; aspect++) {
                HorsesOwnWays x = States.made(state);
                CHECK.due(call, Calls.call(x, name, row), due);
                CHECK.due("whether all is as before " + call,
                        States.told(x, aspect).equals(BEFORE.get(state).get(aspect)) ? 1 : 0, 1);
            }
        }
    }

    private static int[] of(int... row) {
        return row;
    }

    private static void changes(String name, int aspect, int... row) {
        HorsesOwnWays x = States.made(S);
        Calls.call(x, name, row);
        CHECK.due("whether one can tell " + name + Arrays.toString(row),
                States.told(x, aspect).equals(BEFORE.get(S).get(aspect)) ? 1 : 0, 0);
    }

    /** What is told of an object would show a change by any call that changes something. */
    private static void tellingTellsChanges() {
        changes("path", 0, 0, 6, 18);
        changes("ride", 0, 0, 1);
        changes("feed", 0, 1, 'x', 0, 0, 0, 0);
        changes("text", 0);
        changes("force", 0, 0);
        changes("horse", 0, 0, 1, 1, 0);
        changes("stand", 0, 4, 3);
        changes("image", 0);
        changes("back", 0);
        for (int s = 0; s < 4; s++) {
            changes("film", 1 + s, s, 5);
            changes("sheet", 1 + s, s, 1, 6);
        }
        changes("sheet", 1, 0, -1, 0);
        changes("cell", 1, 0, 0, 1);
        changes("cell", 2, 1, 11, 7);
        changes("cell", 3, 2, 5, 8);
        changes("copy", 1, 0, 0, 0, 6, 1);
    }

    private static void placesAndRides() {
        for (int state = E; state <= F; state++) {
            refused(state, "path", -5, of(-1, 0, 5), of(7, 0, 5), of(0, -1, 5), of(0, 7, 5), of(3, 3, 5), of(0, 0, 5),
                    of(LEAST, 0, 5), of(0, MOST, 5), of(7, 0, 0), of(0, 7, 1000), of(6, 6, 0), of(7, 7, 5));
            refused(state, "path", -7, of(0, 6, 0), of(0, 6, 1000), of(6, 0, -1), of(0, 1, LEAST), of(5, 6, MOST));
            refused(state, "pathTold", -5, of(-1, 0), of(7, 0), of(0, -1), of(0, 7), of(7, 7), of(-1, -1),
                    of(LEAST, 0), of(0, MOST));
            refused(state, "ride", -2, of(-1, 0), of(7, 0), of(0, -1), of(0, 7), of(4, 4), of(0, 0), of(MOST, 0),
                    of(0, LEAST));
            refused(state, "count", -2, of(-1), of(5), of(LEAST), of(MOST));
        }
        refused(F, "ride", -4, of(0, 1), of(6, 0));
        refused(E, "rideTold", -5, of(0, 0), of(0, 2), of(-1, 0));
        refused(S, "rideTold", -5, of(3, 0), of(-1, 1), of(3, 2), of(-1, -1), of(MOST, 0));
        refused(F, "rideTold", -5, of(4, 0), of(-1, 1), of(4, 2), of(LEAST, 0));
        refused(S, "rideTold", -7, of(0, 2), of(2, -1), of(0, LEAST), of(0, MOST));
    }

    private static void theLaw() {
        for (int state = E; state <= F; state++) {
            refused(state, "feed", -2, of(0, 32, 32, 32, 32, 32), of(6, 32, 32, 32, 32, 32), of(-1, 32, 32, 32, 32, 32),
                    of(LEAST, 32, 32, 32, 32, 32), of(MOST, 32, 32, 32, 32, 32));
            for (int n = 1; n <= 5; n++) {
                refused(state, "feed", -2, of(n, -1, 32, 32, 32, 32), of(n, 32, 256, 32, 32, 32),
                        of(n, 32, 32, -1, 32, 32), of(n, 32, 32, 32, 256, 32), of(n, 32, 32, 32, 32, -1),
                        of(n, 256, 32, 32, 32, 32), of(n, 32, 32, 32, 32, 256));
            }
        }
        refused(F, "feed", -4, of(3, 32, 32, 32, 32, 32), of(4, 32, 32, 32, 32, 32), of(5, 32, 32, 32, 32, 32));
        refused(F, "text", -4, of());
        refused(E, "force", -2, of(1), of(-1), of(LEAST));
        refused(S, "force", -2, of(3), of(-1), of(MOST));
        refused(F, "force", -2, of(6), of(-1));
        refused(E, "asks", -5, of(0, 0), of(3, 0), of(0, -1));
        refused(S, "asks", -5, of(0, 5), of(0, -1), of(3, 5), of(-1, -1), of(0, MOST));
        refused(F, "asks", -5, of(0, 7), of(0, -1), of(3, 7));
        refused(S, "asks", -7, of(3, 0), of(-1, 4), of(LEAST, 0), of(MOST, 0));
    }

    private static void horses() {
        for (int state = E; state <= F; state++) {
            refused(state, "horse", -2, of(-1, 1, 5, 0), of(6, 1, 5, 0), of(0, 0, 5, 0), of(0, 66, 5, 0), of(0, 7, 5, 0),
                    of(0, 70, 5, 0), of(0, -1, 5, 0), of(0, 10 * 7 + 7, 5, 0), of(0, 106, 5, 0), of(0, 1, 0, 0),
                    of(0, 1, 1000, 0), of(0, 1, -1, 0), of(0, 1, 5, -1), of(0, 1, 5, 10), of(LEAST, 1, 5, 0),
                    of(0, LEAST, 5, 0), of(0, MOST, 5, 0), of(0, 1, MOST, 0), of(0, 1, 5, LEAST));
        }
        refused(F, "horse", -4, of(0, 1, 1, 0), of(5, 65, 999, 9));
        refused(E, "stand", -5, of(0, 0), of(0, 1000), of(-1, 0));
        refused(S, "stand", -5, of(5, 0), of(-1, 0), of(5, -1), of(-1, 1000), of(MOST, 5));
        refused(F, "stand", -5, of(7, 0), of(7, 1000), of(-1, 0));
        refused(S, "stand", -7, of(0, -1), of(4, 1000), of(0, LEAST), of(0, MOST));
        refused(E, "told", -5, of(0, 0), of(0, 8));
        refused(S, "told", -5, of(5, 0), of(-1, 0), of(5, 8), of(-1, -1));
        refused(F, "told", -5, of(7, 0), of(-1, 7), of(7, 8));
        refused(S, "told", -7, of(0, 8), of(4, -1), of(0, LEAST), of(0, MOST));
        refused(E, "goes", -5, of(0, 0), of(0, 7));
        refused(S, "goes", -5, of(5, 0), of(-1, 0), of(0, 7), of(0, -1), of(5, 7), of(MOST, 0), of(0, LEAST));
        refused(F, "goes", -5, of(7, 0), of(6, 7), of(-1, -1));
        for (int state = E; state <= F; state++) {
            refused(state, "at", -5, of(-1), of(7), of(LEAST), of(MOST));
        }
    }

    private static void soonest() {
        for (int state = E; state <= F; state++) {
            refused(state, "soonest", -5, of(-1, 0, 0), of(7, 0, 0), of(0, -1, 0), of(0, 7, 0), of(7, 7, 0), of(0, 7, 5),
                    of(-1, 0, -1), of(MOST, 0, 0), of(0, LEAST, 0));
            refused(state, "soonest", -7, of(0, 6, -1), of(0, 6, 5), of(3, 3, 5), of(0, 6, LEAST), of(0, 6, MOST));
            refused(state, "piece", -5, of(-1, 0, 0), of(7, 0, 0), of(0, -1, 0), of(0, 7, 0), of(7, 7, -1), of(0, 7, -1),
                    of(LEAST, 0, 0), of(0, MOST, 99));
            refused(state, "piece", -7, of(0, 6, -1), of(3, 3, -1), of(0, 6, LEAST));
        }
        refused(E, "both", -5, of(0, 0, 0), of(0, 1, 3));
        refused(S, "both", -5, of(3, 0, 0), of(0, 3, 0), of(-1, 0, 0), of(0, -1, 0), of(3, 0, 3), of(0, -1, -1));
        refused(F, "both", -5, of(4, 0, 0), of(0, 4, 3));
        refused(S, "both", -7, of(0, 1, 3), of(0, 1, -1), of(2, 2, MOST), of(0, 1, LEAST));
        refused(E, "worth", -5, of(0), of(-1));
        refused(S, "worth", -5, of(5), of(-1), of(LEAST), of(MOST), of(31), of(32));
        refused(F, "worth", -5, of(7), of(-1));
    }

    private static void better() {
        for (int state = E; state <= F; state++) {
            refused(state, "teach", -2, of(-1), of(2), of(LEAST), of(MOST));
            refused(state, "cut", -1000000, of(-1, 0, 5), of(7, 0, 5), of(0, -1, 5), of(0, 7, 5), of(3, 3, 5),
                    of(0, 6, 0), of(0, 6, 1000), of(0, 6, -1), of(0, 6, LEAST), of(0, 6, MOST), of(MOST, 0, 5));
        }
        refused(F, "teach", -3, of(0), of(1));
        refused(E, "move", -5, of(0, 0), of(0, 2));
        refused(S, "move", -5, of(5, 0), of(-1, 0), of(5, 2), of(-1, -1));
        refused(F, "move", -5, of(7, 0), of(7, 2));
        refused(S, "move", -7, of(0, 2), of(4, -1), of(0, LEAST), of(0, MOST));
    }

    private static void dying() {
        for (int state = E; state <= F; state++) {
            refused(state, "lost", NO, of(-1, 0, 5), of(7, 0, 5), of(0, -1, 5), of(0, 7, 5), of(0, 6, -1),
                    of(0, 6, 10000), of(0, 6, LEAST), of(0, 6, MOST), of(7, 7, 5));
            refused(state, "needed", -5, of(-1, 0, 0), of(7, 0, 0), of(0, -1, 0), of(0, 7, 0), of(0, 7, 2), of(-1, 0, -1));
            refused(state, "needed", -7, of(0, 6, 2), of(0, 6, -1), of(3, 3, 2), of(0, 6, LEAST), of(0, 6, MOST));
            refused(state, "again", -5, of(-1, 0), of(7, 0), of(0, -1), of(0, 7), of(7, 7), of(LEAST, 0), of(0, MOST));
            refused(state, "doctor", -2, of(-1), of(2), of(LEAST), of(MOST));
        }
    }

    private static void toldRides() {
        for (int state = E; state <= F; state++) {
            refused(state, "judge", -2, of(4, 0, 0), of(-1, 0, 0), of(4, 7, 3), of(MOST, 0, 0));
            refused(state, "whence", -2, of(4), of(-1), of(LEAST), of(MOST));
            refused(state, "laws", -2, of(4, 0), of(-1, 0), of(4, 7));
            refused(state, "film", -2, of(4, 0), of(-1, 0), of(4, 7), of(MOST, -1));
            refused(state, "film", -5, of(0, 7), of(3, -1), of(1, MOST));
        }
        refused(E, "judge", -11, of(0, 0, 0), of(3, 7, 3));
        refused(S, "judge", -11, of(3, 0, 0), of(3, 7, 0), of(3, 0, 3), of(3, -1, -1));
        refused(S, "judge", -5, of(0, 7, 0), of(2, -1, 0), of(0, 7, 3), of(1, LEAST, -1));
        refused(S, "judge", -7, of(0, 0, 3), of(2, 6, -1), of(2, 0, LEAST), of(2, 0, MOST));
        refused(E, "whence", -11, of(0), of(3));
        refused(S, "whence", -11, of(3));
        refused(S, "whence", -2, of(1), of(2));
        refused(F, "whence", -2, of(0), of(3));
        refused(E, "laws", -11, of(0, 0), of(3, 7));
        refused(S, "laws", -11, of(3, 0), of(3, -1));
        refused(S, "laws", -2, of(1, 0), of(2, 7));
        refused(S, "laws", -5, of(0, 7), of(0, -1), of(0, MOST));
        refused(E, "wet", -2, of(1, 0), of(-1, 0), of(0, 2), of(0, -1));
        refused(S, "wet", -2, of(32, 0), of(-1, 1), of(0, 2), of(31, -1), of(LEAST, 0), of(MOST, 0), of(32, 2));
        refused(F, "wet", -2, of(128, 0), of(-1, 0), of(127, 2), of(255, 1));
    }

    private static void lots() {
        for (int state = E; state <= F; state++) {
            refused(state, "drawn", -2, of(-1), of(100000), of(LEAST), of(MOST));
            refused(state, "mean", NO, of(-1, 0, 0, 1, 0), of(7, 0, 0, 1, 0), of(0, -1, 0, 1, 0), of(0, 7, 0, 1, 0),
                    of(0, 6, -1, 1, 0), of(0, 6, 100000, 1, 0), of(0, 6, 0, 0, 0), of(0, 6, 0, 31, 0),
                    of(0, 6, 0, -1, 0), of(0, 6, 0, 1, -1), of(0, 6, 0, 1, 2), of(0, 6, MOST, 30, 1),
                    of(0, 6, 0, MOST, 1), of(0, 6, 0, LEAST, 0));
        }
        refused(E, "back", -3, of());
    }

    private static void sheets() {
        for (int state = E; state <= F; state++) {
            refused(state, "sheet", -2, of(-1, 0, 5), of(4, 0, 5), of(0, -2, 5), of(0, 3, 5), of(0, 0, 41),
                    of(1, 1, 41), of(2, 2, MOST), of(0, 3, -1), of(4, 2, -1), of(-1, -1, 0), of(4, -1, 0), of(0, MOST, 0),
                    of(0, LEAST, 5));
            refused(state, "sheet", -14, of(0, 0, -1), of(1, 1, -1), of(2, 2, -1), of(3, 2, LEAST));
            refused(state, "cell", -2, of(-1, 0, 1), of(4, 0, 1), of(4, -1, 1), of(MOST, 99, 1));
        }
        refused(E, "cell", -11, of(0, 0, 1), of(3, -1, 1));
        refused(S, "cell", -11, of(3, 0, 1), of(3, 40, 1));
        refused(S, "cell", -12, of(0, -1, 1), of(0, 7, 1), of(1, 12, 1), of(2, 6, 1), of(2, LEAST, 1), of(2, MOST, 1));
        refused(F, "cell", -12, of(0, -1, 1), of(0, 40, 1), of(3, 40, 1), of(1, 41, 1));
    }

    private static void copies() {
        for (int state = E; state <= F; state++) {
            refused(state, "copy", -2, of(-1, 0, 0, 0, 1), of(4, 0, 0, 0, 1), of(0, 0, -1, 0, 1), of(0, 0, 4, 0, 1),
                    of(4, -1, 0, 0, -1), of(3, 0, 4, 0, 1));
        }
        refused(E, "copy", -11, of(0, 0, 1, 0, 1), of(2, 0, 2, 0, 0), of(3, -1, 3, -1, -1));
        refused(S, "copy", -11, of(3, 0, 0, 0, 1), of(0, 0, 3, 0, 1), of(3, 0, 3, 0, 0), of(0, -1, 3, 0, -1),
                of(3, 0, 2, 99, 1));
        refused(S, "copy", -13, of(0, 0, 1, 0, 1), of(1, 0, 2, 0, 1), of(2, 0, 0, 0, 0), of(0, -1, 1, 0, 1),
                of(0, 0, 2, 0, -1), of(0, 8, 2, 7, 99));
        refused(S, "copy", -12, of(0, -1, 0, 0, 1), of(0, 0, 0, -1, 1), of(0, 0, 0, 0, -1), of(0, 0, 0, 0, 8),
                of(0, 1, 0, 0, 7), of(0, 0, 0, 1, 7), of(0, 7, 0, 0, 1), of(0, 0, 0, 7, 1), of(0, 8, 0, 0, 0),
                of(0, 0, 0, 8, 0), of(0, MOST, 0, 0, 1), of(0, 0, 0, MOST, 1), of(0, 1, 0, 1, MOST),
                of(0, MOST, 0, 0, MOST), of(0, 0, 0, MOST, MOST), of(0, LEAST, 0, 0, 1), of(0, 0, 0, 0, LEAST),
                of(0, 3, 0, 5, 3));
        refused(F, "copy", -12, of(0, 0, 3, 0, 41), of(0, 40, 3, 0, 1), of(3, 0, 0, 40, 1), of(0, 1, 3, 0, 40));
        refused(F, "copy", -13, of(0, 0, 1, 0, 1), of(1, 41, 2, 0, 1));
    }

    private static void horsesBySheets() {
        for (int state = E; state <= F; state++) {
            refused(state, "horsesBy", -2, of(-1, 0, 0, 1), of(4, 0, 0, 1), of(0, -1, 0, 1), of(0, 3, 0, 1), of(0, 2, 0, -1),
                    of(0, 2, 0, 8), of(3, 2, -1, 8), of(0, 2, 0, LEAST), of(0, 2, 0, MOST), of(4, 2, -1, 1));
        }
        refused(E, "horsesBy", -11, of(0, 0, 0, 1), of(3, 2, -1, 7), of(1, 1, 0, 0));
        refused(S, "horsesBy", -11, of(3, 0, 0, 1), of(3, 2, -1, 0));
        refused(S, "horsesBy", -13, of(0, 0, 0, 1), of(0, 1, 99, 1), of(1, 2, 0, 1), of(2, 1, -1, 0));
        refused(S, "horsesBy", -12, of(1, 1, -1, 1), of(1, 1, 9, 1), of(1, 1, 12, 1), of(1, 1, 11, 7), of(1, 1, MOST, 1),
                of(1, 1, MOST - 3, 7), of(1, 1, LEAST, 7), of(0, 2, 4, 1));
        refused(F, "horsesBy", -12, of(0, 0, 37, 1), of(0, 0, 13, 7), of(0, 0, -4, 2));
    }

    private static void takenThings() {
        for (int state = E; state <= F; state++) {
            refused(state, "taken", -2, of(0, -1), of(0, 7), of(-1, 7), of(11, -1), of(0, LEAST), of(MOST, MOST));
            refused(state, "taken", -12, of(-1, 0), of(11, 0), of(-1, 6), of(LEAST, 3), of(MOST, 6));
        }
        refused(E, "taken", -11, of(0, 6), of(0, 0), of(3, 6), of(4, 0), of(4, 6), of(10, 5));
        refused(S, "taken", -11, of(3, 6), of(3, 0), of(9, 0), of(10, 6));
        refused(S, "taken", -13, of(0, 0), of(2, 5), of(4, 6), of(8, 6), of(4, 1), of(5, 2), of(6, 1), of(7, 1), of(8, 3));
        refused(F, "taken", -13, of(3, 0), of(10, 6), of(10, 1));
    }

    /** Where it is told: a FAULT empties THE TAPE; fed anew, all is as before. */
    private static void faultChangesTheTapeAlone() {
        for (int aspect = 0; aspect < States.ASPECTS; aspect++) {
            for (String spoilt : new String[] {"?", ";", " out", "((((((", "or"}) {
                HorsesOwnWays x = States.made(S);
                Check.feedAll(x, spoilt);
                CHECK.due("text() behind which stands " + spoilt, x.text(), spoilt.equals(" out") ? -121 : -120);
                CHECK.due("bytes then", x.count(4), 0);
                CHECK.due("TEXTS then", x.count(2), 3);
                CHECK.due("THE LAW then", x.count(3), 2);
                Check.feedAll(x, "out 7;home 8;dies 9;");
                CHECK.due("whether all is as before", States.told(x, aspect).equals(BEFORE.get(S).get(aspect)) ? 1 : 0, 1);
            }
        }
    }

    /** Where it is told: of HORSES by a SHEET those that stood ahead of the place outside came, and nothing else. */
    private static void outsideBringsWhatStoodAhead() {
        for (int aspect = 0; aspect < States.ASPECTS; aspect++) {
            for (int ahead = 0; ahead <= 2; ahead++) {
                HorsesOwnWays x = States.made(S);
                CHECK.due("horsesBy with " + ahead + " ahead", x.horsesBy(1, 1, 12 - 4 * ahead, 7), -12);
                HorsesOwnWays y = States.made(S);
                int[][] rows = {{1, 34, 7, 8}, {5, 61, 90, 6}};
                for (int i = 2 - ahead; i < 2; i++) {
                    y.horse(rows[i][0], rows[i][1], rows[i][2], rows[i][3]);
                }
                CHECK.due("HORSES then", x.count(0), 5 + ahead);
                CHECK.due("whether all is as if they came alone",
                        States.told(x, aspect).equals(States.told(y, aspect)) ? 1 : 0, 1);
            }
        }
    }
}
