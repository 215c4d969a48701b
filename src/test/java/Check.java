/** Compares answers with those that are due, and tells those that are not. */
final class Check {
    private static final String THE_LAW = "out told;home told;dies more;";

    private final String promise;
    private int wrong = 0;
    private int asked = 0;

    Check(String promise) {
        this.promise = promise;
    }

    void due(String call, long got, long want) {
        asked++;
        if (got != want) {
            wrong++;
            System.out.println(promise + ": " + call + " answered " + got + ", due is " + want);
        }
    }

    /** Ends the program with 1 if an answer was wrong, or if nothing was asked at all. */
    void finish() {
        System.out.println(promise + ": " + asked + " answers, " + wrong + " of them wrong");
        if (wrong != 0 || asked == 0) {
            System.exit(1);
        }
    }

    static void feedAll(HorsesOwnWays x, String text) {
        for (int i = 0; i < text.length(); i++) {
            x.feed(1, text.charAt(i), 0, 0, 0, 0);
        }
    }

    static int textOf(HorsesOwnWays x, String text) {
        feedAll(x, text);
        return x.text();
    }

    /** What a HORSE (kind 0, from 2 to 6, told 40, more 7, ready 11) has as OUT by "out E;". */
    static int outBy(String e) {
        HorsesOwnWays x = new HorsesOwnWays();
        int t = textOf(x, "out " + e + ";home 1;dies 0;");
        if (t != 1) {
            return t;
        }
        x.force(1);
        x.horse(0, 26, 40, 7);
        x.stand(0, 11);
        return x.asks(0, 0);
    }

    static int lawAgain(HorsesOwnWays x) {
        return textOf(x, THE_LAW);
    }

    static int fill(HorsesOwnWays x, int s, int sort, int... numbers) {
        int made = x.sheet(s, sort, numbers.length);
        for (int i = 0; i < numbers.length; i++) {
            x.cell(s, i, numbers[i]);
        }
        return made;
    }
}
