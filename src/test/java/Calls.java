import java.util.ArrayList;
import java.util.LinkedHashMap;
import java.util.List;
import java.util.Map;

/** Calls of HorsesOwnWays by name, and arguments for them by a row of numbers that is always the same. */
final class Calls {
    /** Each call, and what its arguments are: see argument(). */
    private static final String FACE = "path ppw|pathTold pp|ride pp|rideTold rb|count 4|feed 5yyyyy|text |force t|"
            + "asks 2h|horse k%wm|stand hz|told h8|goes hp|at p|soonest pp4|piece pp3|both rr2|all |worth h|teach b|"
            + "move hb|cut ppw|lost ppl|needed ppb|again pp|doctor b|judge sp2|wet xb|whence s|laws sp|film sp|"
            + "drawn d|mean ppdeb|image |back |sheet son|cell sic|copy sisin|horsesBy soi7|taken a6";

    private static final String ASKING = " pathTold rideTold count asks told goes at soonest piece both all worth teach"
            + " move cut lost needed again doctor judge wet whence laws drawn mean taken ";

    private static final int[] EDGES = {Integer.MIN_VALUE, -1000001, -12, -3, -2, -1, 0, 1, 2, 3, 4, 5, 6, 7, 8, 9, 10,
        11, 40, 41, 66, 67, 70, 99, 100, 127, 128, 159, 160, 161, 255, 256, 999, 1000, 9999, 10000, 99999, 100000,
        1 << 30, Integer.MAX_VALUE - 1, Integer.MAX_VALUE};

    private static final String[] PIECES = {"out ", "home ", "dies ", "or ", "and ", "not ", "told", "more", "from", "to ",
        "ready", "far ", "(", ")", ";", "+", "-", "*", "<", "=", " ", "\n", "7", "90", "9999", "12345", "x", "?", "\t"};

    private final Map<String, String> face = new LinkedHashMap<>();
    final List<String> names = new ArrayList<>();
    private long state;

    Calls(long seed) {
        state = seed * 2654435761L + 12345;
        for (String call : FACE.split("\\|")) {
            String[] parts = call.split(" ", 2);
            face.put(parts[0], parts[1]);
            names.add(parts[0]);
        }
    }

    int next(int below) {
        state = state * 6364136223846793005L + 1442695040888963407L;
        return (int) ((state >>> 33) % below);
    }

    static boolean isAsking(String name) {
        return ASKING.contains(" " + name + " ");
    }

    /** Mostly as told; one of 16 from far around. */
    int[] arguments(String name) {
        String kinds = face.get(name);
        int[] v = new int[kinds.length()];
        for (int i = 0; i < v.length; i++) {
            v[i] = next(24) == 0 ? EDGES[next(EDGES.length)] : argument(kinds.charAt(i));
        }
        return v;
    }

    private int argument(char kind) {
        switch (kind) {
            case 'p': return next(7);
            case 'r': return next(4);
            case 'h': return next(next(2) == 0 ? 3 : 7);
            case 'b': return next(2);
            case 'w': return 1 + next(next(3) == 0 ? 999 : 60);
            case 'z': return next(next(3) == 0 ? 1000 : 80);
            case 'y': return next(256);
            case 't': return next(6);
            case 'k': return next(6);
            case '%': return 10 * next(7) + next(7);
            case 'm': return next(10);
            case 'l': return next(300);
            case 's': return next(4);
            case 'x': return next(next(2) == 0 ? 4 : 128);
            case 'd': return next(next(2) == 0 ? 100000 : 50);
            case 'e': return 1 + next(30);
            case 'o': return next(3);
            case 'n': return next(3) == 0 ? 7 : next(41);
            case 'i': return next(next(2) == 0 ? 8 : 40);
            case 'c': return new int[] {next(7), 10 * next(8) + next(7), 30 * next(7), next(1000), next(100000)}[next(5)];
            case 'a': return next(11);
            default: return next(kind - '0' + 1);
        }
    }

    /** A text: as it should be, or spoilt, or anything. */
    String text() {
        StringBuilder made = new StringBuilder();
        if (next(5) == 0) {
            for (int n = next(20); n > 0; n--) {
                made.append(PIECES[next(PIECES.length)]);
            }
            return made.toString();
        }
        for (String key : new String[] {"out ", "home ", "dies "}) {
            made.append(key);
            expression(made, 4);
            made.append(";");
        }
        if (next(4) == 0) {
            made.insert(next(made.length() + 1), PIECES[next(PIECES.length)]);
        }
        if (next(6) == 0) {
            made.deleteCharAt(next(made.length()));
        }
        return made.toString();
    }

    private void expression(StringBuilder made, int deep) {
        int sort = next(deep <= 0 ? 2 : 9);
        if (sort == 0) {
            made.append(next(200));
        } else if (sort < 4) {
            made.append(PIECES[6 + next(6)]).append(' ');
        } else if (sort == 4) {
            made.append("-");
            expression(made, 0);
        } else if (sort == 5) {
            made.append(next(3) == 0 ? "not (" : "(");
            expression(made, deep - 1);
            made.append(")");
        } else {
            expression(made, deep - 2);
            made.append(new String[] {"+", "-", "*", "<", "=", " or ", " and ", "+", "+"}[next(9)]);
            expression(made, deep - 2);
        }
    }

    static long call(HorsesOwnWays x, String name, int[] v) {
        switch (name) {
            case "path": return x.path(v[0], v[1], v[2]);
            case "pathTold": return x.pathTold(v[0], v[1]);
            case "ride": return x.ride(v[0], v[1]);
            case "rideTold": return x.rideTold(v[0], v[1]);
            case "count": return x.count(v[0]);
            case "feed": return x.feed(v[0], v[1], v[2], v[3], v[4], v[5]);
            case "text": return x.text();
            case "force": return x.force(v[0]);
            case "asks": return x.asks(v[0], v[1]);
            case "horse": return x.horse(v[0], v[1], v[2], v[3]);
            case "stand": return x.stand(v[0], v[1]);
            case "told": return x.told(v[0], v[1]);
            case "goes": return x.goes(v[0], v[1]);
            case "at": return x.at(v[0]);
            case "soonest": return x.soonest(v[0], v[1], v[2]);
            case "piece": return x.piece(v[0], v[1], v[2]);
            case "both": return x.both(v[0], v[1], v[2]);
            case "all": return x.all();
            case "worth": return x.worth(v[0]);
            case "teach": return x.teach(v[0]);
            default: return callFurther(x, name, v);
        }
    }

    private static long callFurther(HorsesOwnWays x, String name, int[] v) {
        switch (name) {
            case "move": return x.move(v[0], v[1]);
            case "cut": return x.cut(v[0], v[1], v[2]);
            case "lost": return x.lost(v[0], v[1], v[2]);
            case "needed": return x.needed(v[0], v[1], v[2]);
            case "again": return x.again(v[0], v[1]);
            case "doctor": return x.doctor(v[0]);
            case "judge": return x.judge(v[0], v[1], v[2]);
            case "wet": return x.wet(v[0], v[1]);
            case "whence": return x.whence(v[0]);
            case "laws": return x.laws(v[0], v[1]);
            case "film": return x.film(v[0], v[1]);
            case "drawn": return x.drawn(v[0]);
            case "mean": return x.mean(v[0], v[1], v[2], v[3], v[4]);
            case "image": return x.image();
            case "back": return x.back();
            case "sheet": return x.sheet(v[0], v[1], v[2]);
            case "cell": return x.cell(v[0], v[1], v[2]);
            case "copy": return x.copy(v[0], v[1], v[2], v[3], v[4]);
            case "horsesBy": return x.horsesBy(v[0], v[1], v[2], v[3]);
            case "taken": return x.taken(v[0], v[1]);
            default: return Long.MIN_VALUE;
        }
    }
}
