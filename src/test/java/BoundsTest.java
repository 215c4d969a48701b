import java.util.Arrays;
import java.util.Set;

/** Each number of each call: at its bounds it is taken, one below and one above it is refused. */
public final class BoundsTest {
    private static final Check CHECK = new Check("bounds");

    private static final int E = States.EMPTY, S = States.SOME, F = States.FULL;
    private static final long NO = HorsesOwnWays.NO;
    private static final long NO_CUT = -1000000;

    /** What a refused call answers; -1 is an answer of many calls, and no refusal of any. */
    private static final Set<Long> REFUSALS = Set.of(-2L, -3L, -4L, -5L, -7L, -11L, -12L, -13L, -14L, NO, NO_CUT);

    public static void main(String[] args) {
        places();
        minutes();
        things();
        whats();
        bytesAndTexts();
        years();
        sheets();
        manySheetNumbers();
        counts();
        CHECK.finish();
    }

    /** The number at a place of a call's row is taken from least to most; what is outside is refused so. */
    private static void bound(int state, String name, int at, int least, int most, long refusal, int... row) {
        for (int v : new int[] {least, least + 1, most - 1, most}) {
            if (v >= least && v <= most) {
                row[at] = v;
                long got = Calls.call(States.made(state), name, row);
                CHECK.due("whether " + name + Arrays.toString(row) + " of " + States.NAMES[state] + " is taken, not "
                        + got, REFUSALS.contains(got) ? 0 : 1, 1);
            }
        }
        for (int v : new int[] {Integer.MIN_VALUE, least - 1, most + 1, Integer.MAX_VALUE}) {
            row[at] = v;
            CHECK.due(name + Arrays.toString(row) + " of " + States.NAMES[state],
                    Calls.call(States.made(state), name, row), refusal);
        }
    }

    /** A PLACE is 0 .. 6, wherever it is told. */
    private static void places() {
        for (int state : new int[] {E, S, F}) {
            for (int at = 0; at < 2; at++) {
                bound(state, "path", at, 0, 6, -5, 3, 3, 5);
                bound(state, "pathTold", at, 0, 6, -5, 3, 3);
                bound(state, "soonest", at, 0, 6, -5, 3, 3, 0);
                bound(state, "piece", at, 0, 6, -5, 3, 3, 0);
                bound(state, "cut", at, 0, 6, NO_CUT, 3, 3, 5);
                bound(state, "lost", at, 0, 6, NO, 3, 3, 5);
                bound(state, "needed", at, 0, 6, -5, 3, 3, 0);
                bound(state, "again", at, 0, 6, -5, 3, 3);
                bound(state, "mean", at, 0, 6, NO, 3, 3, 5, 5, 0);
            }
            bound(state, "at", 0, 0, 6, -5, 0);
            bound(state, "film", 1, 0, 6, -5, 3, 0);
        }
        for (int at = 0; at < 2; at++) {
            bound(E, "ride", at, 0, 6, -2, 3, 3);
        }
        for (int state : new int[] {S, F}) {
            bound(state, "goes", 1, 0, 6, -5, 0, 0);
            bound(state, "judge", 1, 0, 6, -5, 0, 0, 0);
        }
        bound(S, "laws", 1, 0, 6, -5, 0, 0);
        fromTo();
    }

    /** Each fromTo: of two digits, both 0 .. 6, unlike. */
    private static void fromTo() {
        HorsesOwnWays x = new HorsesOwnWays();
        x.image();
        for (int fromTo = -120; fromTo <= 220; fromTo++) {
            boolean isTold = fromTo >= 0 && fromTo <= 66 && fromTo % 10 <= 6 && fromTo / 10 != fromTo % 10;
            CHECK.due("horse(0, " + fromTo + ", 5, 0)", x.horse(0, fromTo, 5, 0), isTold ? 0 : -2);
            if (isTold) {
                CHECK.due("FROM of " + fromTo, x.told(0, 1), fromTo / 10);
                CHECK.due("TO of " + fromTo, x.told(0, 2), fromTo % 10);
            }
            x.back();
        }
        for (int a = 0; a < 7; a++) {
            CHECK.due("ride to where it is from", x.ride(a, a), -2);
            CHECK.due("path to where it is from", x.path(a, a, 5), -5);
            CHECK.due("cut to where it is from", x.cut(a, a, 5), NO_CUT);
            CHECK.due("pathTold to where it is from", x.pathTold(a, a), 0);
        }
    }

    private static void minutes() {
        for (int state : new int[] {E, S, F}) {
            bound(state, "path", 2, 1, 999, -7, 0, 6, 0);
            bound(state, "path", 2, 1, 999, -7, 6, 5, 0);
            bound(state, "lost", 2, 0, 9999, NO, 0, 6, 0);
        }
        bound(E, "cut", 2, 1, 999, NO_CUT, 0, 6, 0);
        bound(S, "stand", 1, 0, 999, -7, 4, 0);
        bound(F, "stand", 1, 0, 999, -7, 6, 0);
        bound(S, "horse", 0, 0, 5, -2, 0, 61, 5, 5);
        bound(S, "horse", 2, 1, 999, -2, 0, 61, 5, 5);
        bound(S, "horse", 3, 0, 9, -2, 0, 61, 5, 5);
    }

    /** HORSES, RIDES, TEXTS: those that are there. */
    private static void things() {
        int[] states = {S, F};
        int[] horses = {5, 7};
        int[] rides = {3, 4};
        int[] texts = {3, 6};
        for (int i = 0; i < 2; i++) {
            int last = horses[i] - 1;
            bound(states[i], "asks", 1, 0, last, -5, 0, 0);
            bound(states[i], "stand", 0, 0, last, -5, 0, 5);
            bound(states[i], "told", 0, 0, last, -5, 0, 5);
            bound(states[i], "goes", 0, 0, last, -5, 0, 5);
            bound(states[i], "worth", 0, 0, last, -5, 0);
            bound(states[i], "move", 0, 0, last, -5, 0, 0);
            bound(states[i], "wet", 0, 0, (1 << horses[i]) - 1, -2, 0, 0);
            bound(states[i], "rideTold", 0, 0, rides[i] - 1, -5, 0, 0);
            bound(states[i], "both", 0, 0, rides[i] - 1, -5, 0, 0, 0);
            bound(states[i], "both", 1, 0, rides[i] - 1, -5, 0, 0, 0);
            bound(states[i], "force", 0, 0, texts[i] - 1, -2, 0);
        }
        bound(E, "force", 0, 0, 0, -2, 0);
        bound(E, "wet", 0, 0, 0, -2, 0, 0);
    }

    private static void whats() {
        for (int state : new int[] {S, F}) {
            bound(state, "rideTold", 1, 0, 1, -7, 0, 0);
            bound(state, "count", 0, 0, 4, -2, 0);
            bound(state, "asks", 0, 0, 2, -7, 0, 0);
            bound(state, "told", 1, 0, 7, -7, 0, 0);
            bound(state, "soonest", 2, 0, 4, -7, 0, 6, 0);
            for (int i : new int[] {Integer.MIN_VALUE, -2, -1}) {
                CHECK.due("piece(0, 6, " + i + ")", States.made(state).piece(0, 6, i), -7);
            }
            CHECK.due("piece(0, 6, max), behind the last one", States.made(state).piece(0, 6, Integer.MAX_VALUE), -1);
            bound(state, "both", 2, 0, 2, -7, 0, 1, 0);
            bound(state, "move", 1, 0, 1, -7, 0, 0);
            bound(state, "needed", 2, 0, 1, -7, 0, 6, 0);
            bound(state, "doctor", 0, 0, 1, -2, 0);
            bound(state, "judge", 2, 0, 2, -7, 0, 0, 0);
            bound(state, "wet", 1, 0, 1, -2, 0, 0);
        }
        bound(E, "count", 0, 0, 4, -2, 0);
        bound(E, "doctor", 0, 0, 1, -2, 0);
        bound(E, "teach", 0, 0, 1, -2, 0);
        bound(S, "teach", 0, 0, 1, -2, 0);
    }

    private static void bytesAndTexts() {
        for (int state : new int[] {E, S}) {
            bound(state, "feed", 0, 1, 5, -2, 0, 0, 0, 0, 0, 0);
            for (int n = 1; n <= 5; n++) {
                for (int at = 1; at <= 5; at++) {
                    bound(state, "feed", at, 0, 255, -2, n, 0, 0, 0, 0, 0);
                }
            }
        }
    }

    private static void years() {
        for (int state : new int[] {E, S, F}) {
            bound(state, "drawn", 0, 0, 99999, -2, 0);
            bound(state, "mean", 2, 0, 99999, NO, 0, 6, 0, 1, 0);
            bound(state, "mean", 2, 0, 99999, NO, 0, 6, 0, 30, 0);
            bound(state, "mean", 3, 1, 30, NO, 0, 6, 99999, 1, 0);
            bound(state, "mean", 4, 0, 1, NO, 0, 6, 99999, 1, 0);
        }
    }

    private static void sheets() {
        for (int state : new int[] {E, S, F}) {
            bound(state, "film", 0, 0, 3, -2, 0, 0);
            bound(state, "sheet", 0, 0, 3, -2, 0, 1, 5);
            bound(state, "sheet", 0, 0, 3, -2, 0, -1, -99);
            bound(state, "sheet", 1, -1, 2, -2, 0, 0, 5);
            for (int n : new int[] {Integer.MIN_VALUE, -1, 0, 40, 41, Integer.MAX_VALUE}) {
                CHECK.due("sheet(2, -1, " + n + ")", States.made(state).sheet(2, -1, n), 1);
            }
            for (int sort = 0; sort < 3; sort++) {
                HorsesOwnWays x = States.made(state);
                CHECK.due("sheet of 0", x.sheet(1, sort, 0), 1);
                CHECK.due("a number of 0", x.cell(1, 0, 1), -12);
                CHECK.due("sheet of 1", x.sheet(1, sort, 1), 1);
                CHECK.due("a number of 1", x.cell(1, 0, 1), 1);
                CHECK.due("a second number of 1", x.cell(1, 1, 1), -12);
                CHECK.due("sheet of 41", x.sheet(1, sort, 41), -2);
                CHECK.due("sheet of 40", x.sheet(1, sort, 40), 1);
                CHECK.due("sheet of -1", x.sheet(1, sort, -1), -14);
            }
        }
        bound(F, "cell", 0, 0, 3, -2, 0, 0, 1);
        bound(F, "cell", 1, 0, 39, -12, 3, 0, 1);
        bound(S, "cell", 1, 0, 6, -12, 0, 0, 1);
        bound(S, "cell", 1, 0, 11, -12, 1, 0, 1);
        bound(F, "judge", 0, 0, 3, -2, 0, 0, 0);
        for (int s = 0; s < 4; s++) {
            HorsesOwnWays x = new HorsesOwnWays();
            CHECK.due("a SHEET at first", x.whence(s), -11);
            CHECK.due("film of a missing one", x.film(s, 6), 7);
            CHECK.due("whence(" + s + ")", x.whence(s), 64);
            CHECK.due("laws(" + s + ", 6)", x.laws(s, 6), 1);
        }
    }

    private static void manySheetNumbers() {
        copiedSheets();
        for (int other = 0; other < 4; other++) {
            bound(F, "copy", 1, 0, 39, -12, other, 0, other, 0, 1);
            bound(F, "copy", 3, 0, 39, -12, other, 0, other, 0, 1);
            bound(F, "copy", 4, 0, 40, -12, other, 0, other, 0, 0);
            bound(F, "copy", 4, 0, 33, -12, other, 7, other, 0, 0);
            bound(F, "copy", 4, 0, 33, -12, other, 0, other, 7, 0);
            bound(F, "copy", 1, 0, 40, -12, other, 0, other, 40, 0);
            bound(F, "copy", 3, 0, 40, -12, other, 40, other, 0, 0);
        }
        bound(F, "horsesBy", 3, 0, 7, -2, 0, 0, 0, 0);
        bound(S, "horsesBy", 2, 0, 8, -12, 1, 1, 0, 1);
        bound(S, "horsesBy", 2, 0, 4, -12, 1, 1, 0, 2);
        bound(S, "horsesBy", 2, 0, 0, -12, 1, 1, 0, 3);
        for (int kind = 0; kind <= 6; kind++) {
            HorsesOwnWays x = States.made(F);
            for (int i = 0; i <= 10; i++) {
                long got = x.taken(i, kind);
                CHECK.due("whether something lies at " + i + " for " + kind + ", answered " + got,
                        got >= 0 || got == -13 ? 1 : 0, 1);
            }
            CHECK.due("taken(-1, " + kind + ")", x.taken(-1, kind), -12);
            CHECK.due("taken(11, " + kind + ")", x.taken(11, kind), -12);
        }
        for (int i = -1; i <= 11; i++) {
            CHECK.due("taken(" + i + ", -1)", States.made(F).taken(i, -1), -2);
            CHECK.due("taken(" + i + ", 7)", States.made(F).taken(i, 7), -2);
        }
    }

    private static void copiedSheets() {
        for (int s = -1; s <= 4; s++) {
            for (int other = -1; other <= 4; other++) {
                HorsesOwnWays x = States.made(F);
                boolean areSheets = s >= 0 && s <= 3 && other >= 0 && other <= 3;
                CHECK.due("copy(" + s + ", 39, " + other + ", 39, 1)", x.copy(s, 39, other, 39, 1),
                        !areSheets ? -2 : s % 3 != other % 3 ? -13 : 1);
            }
        }
    }

    /** 7 HORSES, 4 RIDES, 6 TEXTS, 160 bytes: the last one comes, and none behind it. */
    private static void counts() {
        HorsesOwnWays x = new HorsesOwnWays();
        for (int i = 0; i < 9; i++) {
            CHECK.due("HORSE " + i, x.horse(0, 1, 1, 0), i < 7 ? i : -4);
            CHECK.due("HORSES then", x.count(0), Math.min(i + 1, 7));
            CHECK.due("RIDE " + i, x.ride(0, 1), i < 4 ? i : -4);
            CHECK.due("RIDES then", x.count(1), Math.min(i + 1, 4));
            CHECK.due("TEXT " + (i + 1), Check.lawAgain(x), i < 5 ? i + 1 : -4);
            CHECK.due("TEXTS then", x.count(2), Math.min(i + 2, 6));
        }
        for (int size = 0; size <= 160; size++) {
            for (int n = 1; n <= 5; n++) {
                HorsesOwnWays y = new HorsesOwnWays();
                for (int i = 0; i < size; i++) {
                    y.feed(1, 32, 0, 0, 0, 0);
                }
                CHECK.due("feed of " + n + " behind " + size, y.feed(n, 32, 32, 32, 32, 32),
                        size + n > 160 ? -4 : size + n);
                CHECK.due("bytes then", y.count(4), size + n > 160 ? size : size + n);
            }
        }
    }
}
