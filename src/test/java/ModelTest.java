import java.util.Arrays;
import java.util.TreeMap;

/** Long runs of calls, each answered by HorsesOwnWays as by the Model; all promises. */
public final class ModelTest {
    private static final Check CHECK = new Check("as the model");
    private static final int RUNS = 400;
    private static final int CALLS = 400;

    public static void main(String[] args) {
        TreeMap<String, Integer> answered = new TreeMap<>();
        for (int run = 0; run < RUNS; run++) {
            Calls calls = new Calls(run);
            HorsesOwnWays x = new HorsesOwnWays();
            Model model = new Model();
            for (int i = 0; i < CALLS; i++) {
                if (calls.next(12) == 0) {
                    compareText(x, model, calls.text(), answered);
                }
                String name = calls.names.get(calls.next(calls.names.size()));
                // More than one call of back in a run of many would keep the HORSES few.
                if (!name.equals("back") || calls.next(5) == 0) {
                    compare(x, model, name, calls.arguments(name), answered);
                }
            }
        }
        for (String name : new Calls(0).names) {
            CHECK.due("that " + name + " was answered, not refused, often enough",
                    answered.getOrDefault(name, 0) >= 100 ? 1 : 0, 1);
        }
        CHECK.finish();
    }

    private static void compareText(HorsesOwnWays x, Model model, String text, TreeMap<String, Integer> answered) {
        // What other calls have fed would spoil the text.
        compare(x, model, "text", new int[0], answered);
        for (int i = 0; i < text.length(); i++) {
            compare(x, model, "feed", new int[] {1, text.charAt(i), 0, 0, 0, 0}, answered);
        }
        compare(x, model, "text", new int[0], answered);
    }

    private static void compare(HorsesOwnWays x, Model model, String name, int[] v, TreeMap<String, Integer> answered) {
        long got = Calls.call(x, name, v);
        CHECK.due(name + Arrays.toString(v), got, model.call(name, v));
        if (got >= 0) {
            answered.merge(name, 1, Integer::sum);
        }
    }
}
