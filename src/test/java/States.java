import java.util.ArrayList;
import java.util.List;

/** Objects in states that are always the same, and all that can be told of them. */
final class States {
    static final int EMPTY = 0, SOME = 1, FULL = 2;
    static final String[] NAMES = {"a new object", "an object with some of all", "an object full of all"};

    /** What an object answers when it is asked, and, one by one, the numbers of its SHEETS. */
    static final int ASPECTS = 5;

    private static final int SHEETS = 4;

    private States() {
    }

    static HorsesOwnWays made(int state) {
        HorsesOwnWays x = new HorsesOwnWays();
        if (state == SOME) {
            makeSome(x);
        } else if (state == FULL) {
            makeFull(x);
        }
        return x;
    }

    /** 5 HORSES (3 at THE IMAGE), 3 RIDES (2), 3 TEXTS, 20 bytes, SHEETS of ints, shorts, bytes, and a missing one. */
    private static void makeSome(HorsesOwnWays x) {
        Check.textOf(x, "out told+from;home told;dies more*9;");
        Check.textOf(x, "out far;home ready+1;dies 50;");
        x.horse(0, 6, 20, 2);
        x.horse(3, 24, 7, 9);
        x.horse(5, 36, 30, 1);
        x.stand(1, 33);
        x.path(0, 1, 17);
        x.ride(0, 5);
        x.ride(6, 1);
        x.force(1);
        x.image();
        x.horse(4, 63, 20, 5);
        x.horse(1, 15, 9, 4);
        x.stand(1, 44);
        x.stand(4, 55);
        x.path(0, 1, 19);
        x.path(5, 6, 400);
        x.ride(3, 0);
        x.force(2);
        Check.feedAll(x, "out 7;home 8;dies 9;");
        x.film(0, 2);
        Check.fill(x, 1, 1, 0, 12, 500, 4, 1, 34, 7, 8, 5, 61, 90, 6);
        Check.fill(x, 2, 0, 71, 76, 70, 73, 1, 2);
    }

    /** 7 HORSES (3 at THE IMAGE), 4 RIDES (2), 6 TEXTS, 158 bytes, 4 SHEETS of 40. */
    private static void makeFull(HorsesOwnWays x) {
        for (int t = 1; t < 6; t++) {
            Check.textOf(x, "out told+" + t + ";home " + t + ";dies more;");
        }
        x.force(5);
        for (int h = 0; h < 7; h++) {
            x.horse(h % 6, 10 * h + (h + 3) % 7, 5 + 9 * h, h);
            x.stand(h, 7 * h);
            if (h < 2) {
                x.ride(h, 6 - h);
            }
            if (h == 2) {
                x.image();
            }
        }
        x.ride(2, 5);
        x.ride(5, 2);
        x.path(2, 5, 77);
        Check.feedAll(x, " ".repeat(158));
        for (int s = 0; s < SHEETS; s++) {
            x.sheet(s, s % 3, 40);
            for (int i = 0; i < 40; i++) {
                x.cell(s, i, (i * 3 + s) % 70);
            }
        }
    }

    /** All that can be told by aspect; the object may be another one afterwards. */
    static List<Long> told(HorsesOwnWays x, int aspect) {
        List<Long> told = new ArrayList<>();
        if (aspect > 0) {
            tellNumbers(x, aspect - 1, told);
            return told;
        }
        tellAsked(x, told);
        told.add((long) x.text());
        told.add((long) x.force(x.count(2) - 1));
        tellAsked(x, told);
        told.add((long) x.back());
        tellAsked(x, told);
        return told;
    }

    private static void tellAsked(HorsesOwnWays x, List<Long> told) {
        for (int i = 0; i < 7; i++) {
            told.add((long) x.count(i));
            told.add((long) x.at(i));
            for (int j = 0; j < 8; j++) {
                told.add((long) x.told(i, j));
                told.add((long) x.pathTold(i, j));
                told.add((long) x.soonest(i, j, 0));
                told.add((long) x.asks(j, i));
                told.add((long) x.rideTold(i, j));
                told.add((long) x.goes(i, j));
            }
        }
        for (int s = 0; s < SHEETS; s++) {
            told.add((long) x.whence(s));
            told.add((long) x.judge(s, 0, 1));
            for (int i = 0; i <= 41; i++) {
                told.add((long) x.copy(s, i, s, i, 0));
            }
        }
    }

    /** The sort of a SHEET, and each of its numbers, as far as a HORSE can have it as TOLD or as MORE. */
    private static void tellNumbers(HorsesOwnWays x, int s, List<Long> told) {
        if (x.back() < 0) {
            x.image();
        }
        int reading = (s + 1) % SHEETS;
        for (int sort = 0; sort < 3; sort++) {
            int found = x.horsesBy(s, sort, 0, 0);
            told.add((long) found);
            for (int i = 0; found == 0 && i < 40; i++) {
                for (int place = 2; place <= 3; place++) {
                    Check.fill(x, reading, sort, 0, 12, 1, 0);
                    told.add((long) x.copy(s, i, reading, place, 1));
                    told.add((long) x.horsesBy(reading, sort, 0, 1));
                    told.add((long) x.told(x.count(0) - 1, place + 1));
                    x.back();
                }
            }
        }
    }
}
