import java.util.ArrayList;
import java.util.Arrays;
import java.util.List;

/** Whatever is called: nothing is thrown, what is asked changes nothing, no call makes an object. */
public final class AnyCallTest {
    private static final Check CHECK = new Check("any call");

    public static void main(String[] args) {
        askingChangesNothing();
        askingLeavesAll();
        changingChangesWhatItTells();
        sameCallsSameAnswers();
        callsMakeNoObjects();
        constants();
        CHECK.finish();
    }

    private static void constants() {
        CHECK.due("NONE", HorsesOwnWays.NONE, -1);
        CHECK.due("BAD", HorsesOwnWays.BAD, -2);
        CHECK.due("STATE", HorsesOwnWays.STATE, -3);
        CHECK.due("FULL", HorsesOwnWays.FULL, -4);
        CHECK.due("NO", HorsesOwnWays.NO, -4611686018427387904L);
    }

    private static void stir(HorsesOwnWays x, Calls calls, int n) {
        for (int i = 0; i < n; i++) {
            if (calls.next(20) == 0) {
                Check.textOf(x, calls.text());
            }
            String name = calls.names.get(calls.next(calls.names.size()));
            Calls.call(x, name, calls.arguments(name));
        }
    }

    /** All that can be told of the state by calls that ask. */
    private static List<Long> stateOf(HorsesOwnWays x) {
        List<Long> told = new ArrayList<>();
        for (int i = 0; i < 7; i++) {
            for (int j = 0; j < 8; j++) {
                told.add((long) x.told(i, j));
                told.add((long) x.pathTold(i, j));
                told.add((long) x.soonest(i, j, 0));
                told.add((long) x.asks(i, j));
                told.add((long) x.rideTold(i, j));
                told.add((long) x.count(j));
            }
        }
        for (int s = 0; s < 4; s++) {
            told.add((long) x.whence(s));
            told.add((long) x.judge(s, 0, 1));
        }
        return told;
    }

    private static void askingChangesNothing() {
        for (int run = 0; run < 60; run++) {
            Calls calls = new Calls(7000 + run);
            HorsesOwnWays x = new HorsesOwnWays();
            stir(x, calls, 60);
            List<Long> before = stateOf(x);
            for (String name : calls.names) {
                if (Calls.isAsking(name)) {
                    for (int i = 0; i < 5; i++) {
                        int[] v = calls.arguments(name);
                        Calls.call(x, name, v);
                        CHECK.due("whether the state is as before " + name + Arrays.toString(v),
                                stateOf(x).equals(before) ? 1 : 0, 1);
                    }
                }
            }
        }
    }

    /** Each call that asks, taken or refused: SHEETS, THE TAPE and THE IMAGE, too, are as before. */
    private static void askingLeavesAll() {
        Calls calls = new Calls(77);
        for (int state = States.EMPTY; state <= States.FULL; state++) {
            for (int aspect = 0; aspect < States.ASPECTS; aspect++) {
                List<Long> before = States.told(States.made(state), aspect);
                for (String name : calls.names) {
                    for (int i = 0; i < 12 && Calls.isAsking(name); i++) {
                        int[] v = calls.arguments(name);
                        HorsesOwnWays x = States.made(state);
                        Calls.call(x, name, v);
                        Calls.call(x, name, v);
                        CHECK.due("whether all is as before " + name + Arrays.toString(v),
                                States.told(x, aspect).equals(before) ? 1 : 0, 1);
                    }
                }
            }
        }
    }

    /** film, copy, cell and sheet change the SHEET that they are told to, and no other one. */
    private static void changingChangesWhatItTells() {
        String[] names = {"film", "sheet", "cell", "copy"};
        int[][][] rows = {{{1, 5}, {3, 0}}, {{1, 2, 9}, {0, -1, 0}}, {{1, 3, 777}, {2, 0, 9}}, {{0, 0, 0, 1, 5}, {1, 4, 1, 0, 4}}};
        for (int n = 0; n < names.length; n++) {
            for (int[] row : rows[n]) {
                int changed = names[n].equals("copy") ? row[2] : row[0];
                for (int s = 0; s < 4; s++) {
                    HorsesOwnWays x = States.made(States.SOME);
                    Calls.call(x, names[n], row);
                    boolean isAsBefore = States.told(x, 1 + s).equals(States.told(States.made(States.SOME), 1 + s));
                    CHECK.due("whether SHEET " + s + " is as before " + names[n] + Arrays.toString(row),
                            isAsBefore ? 1 : 0, s == changed ? 0 : 1);
                }
            }
        }
    }

    private static void sameCallsSameAnswers() {
        HorsesOwnWays x = new HorsesOwnWays();
        HorsesOwnWays y = new HorsesOwnWays();
        stir(x, new Calls(5), 300);
        stir(new HorsesOwnWays(), new Calls(6), 300);
        stir(y, new Calls(5), 300);
        CHECK.due("whether two objects tell the same", stateOf(x).equals(stateOf(y)) ? 1 : 0, 1);
    }

    private static void callsMakeNoObjects() {
        com.sun.management.ThreadMXBean threads =
                (com.sun.management.ThreadMXBean) java.lang.management.ManagementFactory.getThreadMXBean();
        long thread = Thread.currentThread().getId();
        Calls calls = new Calls(9);
        for (String name : calls.names) {
            HorsesOwnWays x = new HorsesOwnWays();
            stir(x, calls, 60);
            int[] v = calls.arguments(name);
            threads.getThreadAllocatedBytes(thread);
            long before = threads.getThreadAllocatedBytes(thread);
            for (int i = 0; i < 400; i++) {
                Calls.call(x, name, v);
            }
            long made = threads.getThreadAllocatedBytes(thread) - before;
            CHECK.due("whether 400 calls of " + name + " made less than an object each, " + made + " bytes",
                    made < 400 * 16 ? 1 : 0, 1);
        }
    }
}
