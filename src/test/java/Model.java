import java.util.ArrayList;
import java.util.Arrays;
import java.util.List;
import java.util.TreeMap;

/**
 * The document once more, as plainly as the Java library allows and with nothing kept that can be
 * worked out: what ModelTest compares HorsesOwnWays with.
 */
final class Model {
    private static final long NO = -4611686018427387904L;

    private record Horse(int kind, int from, int to, int told, int more, int ready) { }

    private record Ride(int from, int to) { }

    private record Sheet(int sort, long[] numbers) { }

    private record Way(int minute, List<Integer> pieces, int walks) { }

    private record Image(int[][] walks, List<Integer> ready, int horses, int rides, int law) { }

    private static final class Fault extends Exception {
        private static final long serialVersionUID = 1;
        final int place;

        Fault(int place) {
            this.place = place;
        }
    }

    private interface Value {
        int of(Horse h, int far);
    }

    private int[][] walks = new int[7][7];
    private List<Horse> horses = new ArrayList<>();
    private List<Ride> rides = new ArrayList<>();
    private final List<Value[]> texts = new ArrayList<>();
    private final List<Integer> tape = new ArrayList<>();
    private final Sheet[] sheets = new Sheet[4];
    private Image image = null;
    private int law = 0;

    Model() {
        for (int a = 0; a < 7; a++) {
            for (int b = 0; b < 7; b++) {
                walks[a][b] = Math.abs(a - b) * 30;
            }
        }
        texts.add(new Value[] {(h, far) -> h.told, (h, far) -> h.told, (h, far) -> h.more});
    }

    /** The call of this name with these arguments. */
    long call(String name, int[] v) {
        switch (name) {
            case "path": return path(v[0], v[1], v[2]);
            case "pathTold": return place(v[0]) && place(v[1]) ? walks[v[0]][v[1]] : -5;
            case "ride": return ride(v[0], v[1]);
            case "rideTold": return rideTold(v[0], v[1]);
            case "count": return count(v[0]);
            case "feed": return feed(v);
            case "text": return text();
            case "force": return force(v[0]);
            case "asks": return horse(v[1]) ? v[0] >= 0 && v[0] <= 2 ? says(v[0], horses.get(v[1])) : -7 : -5;
            case "horse": return newHorse(v[0], v[1], v[2], v[3]);
            case "stand": return stand(v[0], v[1]);
            case "told": return told(v[0], v[1]);
            case "goes": return horse(v[0]) && place(v[1]) ? goes(horses.get(v[0]), v[1]) : -5;
            case "at": return at(v[0]);
            case "soonest": return soonest(v[0], v[1], v[2]);
            case "piece": return piece(v[0], v[1], v[2]);
            case "both": return both(v[0], v[1], v[2]);
            case "all": return ridden(all());
            case "worth": return horse(v[0]) ? ridden(all() - (1 << v[0])) - ridden(all()) : -5;
            case "teach": return teach(v[0]);
            case "move": return move(v[0], v[1]);
            case "cut": return cut(v[0], v[1], v[2]);
            default: return callFurther(name, v);
        }
    }

    private long callFurther(String name, int[] v) {
        switch (name) {
            case "lost": return lost(v[0], v[1], v[2]);
            case "needed": return needed(v[0], v[1], v[2]);
            case "again": return again(v[0], v[1]);
            case "doctor": return doctor(v[0]);
            case "judge": return judge(v[0], v[1], v[2]);
            case "wet": return wet(v[0], v[1]);
            case "whence": return whence(v[0]);
            case "laws": return laws(v[0], v[1]);
            case "film": return film(v[0], v[1]);
            case "drawn": return v[0] < 0 || v[0] > 99999 ? -2 : drawn(v[0]);
            case "mean": return mean(v[0], v[1], v[2], v[3], v[4]);
            case "image": return keep();
            case "back": return back();
            case "sheet": return sheet(v[0], v[1], v[2]);
            case "cell": return cell(v[0], v[1], v[2]);
            case "copy": return copy(v);
            case "horsesBy": return horsesBy(v[0], v[1], v[2], v[3]);
            case "taken": return taken(v[0], v[1]);
            default: return Long.MAX_VALUE;
        }
    }

    private static boolean place(int p) {
        return p >= 0 && p < 7;
    }

    private boolean horse(int h) {
        return h >= 0 && h < horses.size();
    }

    private boolean ride(int r) {
        return r >= 0 && r < rides.size();
    }

    private long path(int a, int b, int v) {
        if (!place(a) || !place(b) || a == b) {
            return -5;
        }
        if (v < 1 || v > 999) {
            return -7;
        }
        int was = walks[a][b];
        walks[a][b] = v;
        walks[b][a] = v;
        return was;
    }

    private long ride(int a, int b) {
        if (!place(a) || !place(b) || a == b) {
            return -2;
        }
        if (rides.size() == 4) {
            return -4;
        }
        rides.add(new Ride(a, b));
        return rides.size() - 1;
    }

    private long rideTold(int r, int what) {
        return !ride(r) ? -5 : what == 0 ? rides.get(r).from : what == 1 ? rides.get(r).to : -7;
    }

    private long count(int what) {
        int[] counts = {horses.size(), rides.size(), texts.size(), law, tape.size()};
        return what < 0 || what > 4 ? -2 : counts[what];
    }

    private long feed(int[] v) {
        for (int i = 1; i <= 5; i++) {
            if (v[i] < 0 || v[i] > 255) {
                return -2;
            }
        }
        if (v[0] < 1 || v[0] > 5) {
            return -2;
        }
        if (tape.size() + v[0] > 160) {
            return -4;
        }
        for (int i = 1; i <= v[0]; i++) {
            tape.add(v[i]);
        }
        return tape.size();
    }

    // ---- texts: the TOKENS are cut off the front of what is left of the text

    private String rest;
    private int size;
    private int open;

    private long text() {
        if (texts.size() == 6) {
            return -4;
        }
        StringBuilder all = new StringBuilder();
        for (int b : tape) {
            all.append((char) b);
        }
        tape.clear();
        rest = all.toString();
        size = rest.length();
        open = 0;
        try {
            Value[] text = new Value[3];
            String[] keys = {"out", "home", "dies"};
            for (int i = 0; i < 3; i++) {
                need(keys[i]);
                text[i] = or();
                need(";");
            }
            need("");
            texts.add(text);
            return texts.size() - 1;
        } catch (Fault fault) {
            return -100 - fault.place;
        }
    }

    private String peek() {
        rest = rest.replaceAll("^[ \n]+", "");
        return rest.replaceAll("(?s)^([a-z]+|[0-9]+|.|).*$", "$1");
    }

    private void need(String token) throws Fault {
        if (!peek().equals(token)) {
            throw new Fault(size - rest.length());
        }
        rest = rest.substring(token.length());
    }

    private boolean has(String token) throws Fault {
        if (!peek().equals(token)) {
            return false;
        }
        need(token);
        return true;
    }

    private void opens() throws Fault {
        if (open == 5) {
            throw new Fault(size - rest.length());
        }
        open++;
    }

    private Value or() throws Fault {
        Value left = and();
        while (has("or")) {
            Value a = left;
            Value b = and();
            left = (h, far) -> a.of(h, far) != 0 | b.of(h, far) != 0 ? 1 : 0;
        }
        return left;
    }

    private Value and() throws Fault {
        Value left = not();
        while (has("and")) {
            Value a = left;
            Value b = not();
            left = (h, far) -> a.of(h, far) != 0 & b.of(h, far) != 0 ? 1 : 0;
        }
        return left;
    }

    private Value not() throws Fault {
        if (!peek().equals("not")) {
            Value a = sum();
            if (has("<")) {
                Value b = sum();
                return (h, far) -> a.of(h, far) < b.of(h, far) ? 1 : 0;
            }
            if (has("=")) {
                Value b = sum();
                return (h, far) -> a.of(h, far) == b.of(h, far) ? 1 : 0;
            }
            return a;
        }
        opens();
        need("not");
        Value a = not();
        open--;
        return (h, far) -> a.of(h, far) == 0 ? 1 : 0;
    }

    private Value sum() throws Fault {
        Value left = term();
        while (true) {
            Value a = left;
            if (has("+")) {
                Value b = term();
                left = (h, far) -> a.of(h, far) + b.of(h, far);
            } else if (has("-")) {
                Value b = term();
                left = (h, far) -> a.of(h, far) - b.of(h, far);
            } else {
                return left;
            }
        }
    }

    private Value term() throws Fault {
        Value left = one();
        while (has("*")) {
            Value a = left;
            Value b = one();
            left = (h, far) -> a.of(h, far) * b.of(h, far);
        }
        return left;
    }

    private Value one() throws Fault {
        String token = peek();
        if (token.matches("[0-9]{1,4}")) {
            need(token);
            int number = Integer.parseInt(token);
            return (h, far) -> number;
        }
        if (List.of("told", "more", "from", "to", "ready", "far").contains(token)) {
            need(token);
            return (h, far) -> switch (token) {
                case "told" -> h.told;
                case "more" -> h.more;
                case "from" -> h.from;
                case "to" -> h.to;
                case "ready" -> h.ready;
                default -> far;
            };
        }
        if (token.equals("-")) {
            opens();
            need("-");
            Value a = one();
            open--;
            return (h, far) -> -a.of(h, far);
        }
        if (token.equals("(")) {
            opens();
        }
        need("(");
        Value a = or();
        need(")");
        open--;
        return a;
    }

    private long force(int t) {
        if (t < 0 || t >= texts.size()) {
            return -2;
        }
        int was = law;
        law = t;
        return was;
    }

    private int says(int part, Horse h) {
        int said = texts.get(law)[part].of(h, walks[h.from][h.to]);
        int least = part == 2 ? 0 : 1;
        int most = part == 2 ? 100 : 999;
        return said < least ? least : said > most ? most : said;
    }

    // ---- horses

    private long newHorse(long kind, long fromTo, long told, long more) {
        boolean fine = kind >= 0 && kind <= 5 && fromTo >= 0 && fromTo <= 66 && fromTo % 10 < 7
                && fromTo / 10 != fromTo % 10 && told >= 1 && told <= 999 && more >= 0 && more <= 9;
        if (!fine) {
            return -2;
        }
        if (horses.size() == 7) {
            return -4;
        }
        horses.add(new Horse((int) kind, (int) fromTo / 10, (int) fromTo % 10, (int) told, (int) more, 0));
        return horses.size() - 1;
    }

    private static Horse standing(Horse h, int ready) {
        return new Horse(h.kind, h.from, h.to, h.told, h.more, ready);
    }

    private long stand(int h, int v) {
        if (!horse(h)) {
            return -5;
        }
        if (v < 0 || v > 999) {
            return -7;
        }
        int was = horses.get(h).ready;
        horses.set(h, standing(horses.get(h), v));
        return was;
    }

    private int out(Horse h) {
        int said = says(0, h);
        return h.kind == 2 || h.kind == 4 ? said + h.more : h.kind == 5 && said > 1 ? said / 2 : said;
    }

    private int home(Horse h) {
        return h.kind == 4 ? says(1, h) * 2 + h.more : says(1, h);
    }

    private static int goes(Horse h, int p) {
        TreeMap<Integer, Integer> ways = new TreeMap<>();
        boolean toAndFro = h.kind == 1 || h.kind == 3;
        int further = h.kind == 3 ? 1 : 0;
        ways.put(h.from, h.kind == 5 ? h.more % 7 : (h.to + further) % 7);
        if (toAndFro) {
            ways.put(h.to, (h.from + further) % 7);
        }
        return ways.getOrDefault(p, -1);
    }

    private long told(int number, int what) {
        if (!horse(number)) {
            return -5;
        }
        if (what < 0 || what > 7) {
            return -7;
        }
        Horse h = horses.get(number);
        return new int[] {h.kind, h.from, h.to, h.told, h.more, h.ready, out(h), home(h)}[what];
    }

    private long at(int p) {
        if (!place(p)) {
            return -5;
        }
        int bits = 0;
        for (int h = 0; h < horses.size(); h++) {
            bits += goes(horses.get(h), p) >= 0 ? 1 << h : 0;
        }
        return bits;
    }

    // ---- soonest

    private int all() {
        return (1 << horses.size()) - 1;
    }

    private Way[] ways(int from, int set) {
        Way[] found = new Way[7];
        boolean[] left = new boolean[7];
        found[from] = new Way(0, List.of(), 0);
        for (int round = 0; round < 7; round++) {
            int p = -1;
            for (int q = 6; q >= 0; q--) {
                if (found[q] != null && !left[q] && (p < 0 || found[q].minute <= found[p].minute)) {
                    p = q;
                }
            }
            left[p] = true;
            for (int h = 0; h < 7; h++) {
                if ((set & 1 << h) != 0 && goes(horses.get(h), p) >= 0 && goes(horses.get(h), p) != p) {
                    Horse by = horses.get(h);
                    int minute = Math.max(found[p].minute, by.ready) + out(by);
                    offer(found, p, goes(by, p), minute, h, 0);
                }
            }
            for (int q = 0; q < 7; q++) {
                if (q != p) {
                    offer(found, p, q, found[p].minute + walks[p][q], 7, walks[p][q]);
                }
            }
        }
        return found;
    }

    private static void offer(Way[] found, int p, int to, int minute, int by, int walked) {
        if (found[to] == null || minute < found[to].minute) {
            List<Integer> pieces = new ArrayList<>(found[p].pieces);
            pieces.add(10 * by + to);
            found[to] = new Way(minute, pieces, found[p].walks + walked);
        }
    }

    private int soon(int a, int b, int set) {
        return ways(a, set)[b].minute;
    }

    private static int bits(Way way) {
        int set = 0;
        for (int piece : way.pieces) {
            set |= piece < 70 ? 1 << piece / 10 : 0;
        }
        return set;
    }

    private long soonest(int a, int b, int what) {
        if (!place(a) || !place(b)) {
            return -5;
        }
        Way way = ways(a, all())[b];
        int first = way.pieces.isEmpty() || way.pieces.get(0) >= 70 ? -1 : way.pieces.get(0) / 10;
        int[] told = {way.minute, bits(way), way.walks, way.pieces.size(), first};
        return what < 0 || what > 4 ? -7 : told[what];
    }

    private long piece(int a, int b, int i) {
        if (!place(a) || !place(b)) {
            return -5;
        }
        List<Integer> pieces = ways(a, all())[b].pieces;
        return i < 0 ? -7 : i < pieces.size() ? pieces.get(i) : -1;
    }

    private long both(int a, int b, int what) {
        if (!ride(a) || !ride(b)) {
            return -5;
        }
        if (what < 0 || what > 2) {
            return -7;
        }
        List<int[]> parted = new ArrayList<>();
        for (int set = 0; set <= all(); set++) {
            int soonA = soon(rides.get(a).from, rides.get(a).to, set);
            int soonB = soon(rides.get(b).from, rides.get(b).to, all() - set);
            parted.add(new int[] {Math.max(soonA, soonB), soonA + soonB, set});
        }
        parted.sort((x, y) -> Arrays.compare(x, y));
        return parted.get(0)[what];
    }

    private int ridden(int set) {
        int sum = 0;
        for (Ride r : rides) {
            sum += soon(r.from, r.to, set);
        }
        return sum;
    }

    private long teach(int what) {
        if (what < 0 || what > 1) {
            return -2;
        }
        if (horses.size() == 7) {
            return -3;
        }
        List<int[]> taught = new ArrayList<>();
        taught.add(new int[] {ridden(all()), -1});
        for (int fromTo = 1; fromTo < 66; fromTo++) {
            int from = fromTo / 10;
            int to = fromTo % 10;
            if (to < 7 && from != to) {
                horses.add(new Horse(0, from, to, Math.max(1, walks[from][to] / 3), 0, 0));
                taught.add(new int[] {ridden(all()), fromTo});
                horses.remove(horses.size() - 1);
            }
        }
        taught.sort((x, y) -> Arrays.compare(x, y));
        return taught.get(0)[1 - what];
    }

    private long move(int number, int what) {
        if (!horse(number)) {
            return -5;
        }
        if (what < 0 || what > 1) {
            return -7;
        }
        Horse h = horses.get(number);
        List<int[]> moved = new ArrayList<>();
        for (int p = 0; p < 7; p++) {
            if (p != h.to) {
                horses.set(number, new Horse(h.kind, p, h.to, h.told, h.more, h.ready));
                moved.add(new int[] {ridden(all()), p});
            }
        }
        horses.set(number, h);
        moved.sort((x, y) -> Arrays.compare(x, y));
        return moved.get(0)[1 - what];
    }

    private long cut(int a, int b, int minutes) {
        if (!place(a) || !place(b) || a == b || minutes < 1 || minutes > 999) {
            return -1000000;
        }
        int now = ridden(all());
        long was = path(a, b, minutes);
        int then = ridden(all());
        path(a, b, (int) was);
        return now - then;
    }

    // ---- horses that die

    private long lost(int a, int b, int minutes) {
        if (!place(a) || !place(b) || minutes < 0 || minutes > 9999) {
            return NO;
        }
        long sum = 0;
        for (int set = 0; set <= all(); set++) {
            long lives = 1000000000;
            for (int h = 0; h < horses.size(); h++) {
                int dies = says(2, horses.get(h));
                lives = lives * ((set & 1 << h) != 0 ? 100 - dies : dies) / 100;
            }
            sum += soon(a, b, set) > minutes ? lives : 0;
        }
        return sum;
    }

    private long needed(int a, int b, int what) {
        if (!place(a) || !place(b)) {
            return -5;
        }
        if (what < 0 || what > 1) {
            return -7;
        }
        List<int[]> without = new ArrayList<>();
        without.add(new int[] {-soon(a, b, all()), -1});
        for (int h = 0; h < horses.size(); h++) {
            without.add(new int[] {-soon(a, b, all() - (1 << h)), h});
        }
        without.sort((x, y) -> Arrays.compare(x, y));
        return what == 0 ? without.get(0)[1] : -without.get(0)[0];
    }

    private long again(int a, int b) {
        if (!place(a) || !place(b)) {
            return -5;
        }
        int most = 0;
        for (int piece : ways(a, all())[b].pieces) {
            most = piece >= 70 ? most : Math.max(most, out(horses.get(piece / 10)) + home(horses.get(piece / 10)));
        }
        return most;
    }

    private long doctor(int what) {
        if (what < 0 || what > 1) {
            return -2;
        }
        List<int[]> lived = new ArrayList<>();
        for (int p = 0; p < 7; p++) {
            int most = 0;
            for (Way way : ways(p, all())) {
                most = Math.max(most, way.minute);
            }
            lived.add(new int[] {most, p});
        }
        lived.sort((x, y) -> Arrays.compare(x, y));
        return lived.get(0)[what];
    }

    // ---- told rides

    private long judge(int s, int a, int what) {
        if (s < 0 || s > 3) {
            return -2;
        }
        if (sheets[s] == null) {
            return -11;
        }
        if (!place(a)) {
            return -5;
        }
        if (what < 0 || what > 2) {
            return -7;
        }
        List<Long> ahead = new ArrayList<>();
        int minute = 0;
        int at = a;
        int first = -1;
        long[] told = sheets[s].numbers;
        for (int i = 0; i < told.length && first < 0; i++) {
            long by = Math.floorDiv(told[i], 10L);
            int to = (int) Math.floorMod(told[i], 10L);
            boolean foot = by == 7 && to < 7 && to != at;
            boolean ridden = by >= 0 && by < horses.size() && to != at && !ahead.contains(by)
                    && goes(horses.get((int) by), at) == to;
            if (!foot && !ridden) {
                first = i;
                break;
            }
            minute = foot ? minute + walks[at][to]
                    : Math.max(minute, horses.get((int) by).ready) + out(horses.get((int) by));
            at = to;
            if (ridden) {
                ahead.add(by);
            }
        }
        return new int[] {first, minute, at}[what];
    }

    private long wet(int set, int what) {
        if (set < 0 || set > all() || what < 0 || what > 1) {
            return -2;
        }
        List<Integer> found = new ArrayList<>();
        for (int a = 0; a < 7; a++) {
            for (int b = 0; b < 7; b++) {
                if (a != b && bits(ways(a, all())[b]) == set) {
                    found.add(10 * a + b);
                }
            }
        }
        return what == 0 ? found.size() : found.isEmpty() ? -1 : found.get(0);
    }

    private boolean so(int s, int from) {
        Way[] ways = ways(from, all());
        for (int p = 0; p < 7; p++) {
            if (ways[p].minute != sheets[s].numbers[p]) {
                return false;
            }
        }
        return true;
    }

    private long refused(int s) {
        return s < 0 || s > 3 ? -2 : sheets[s] == null ? -11 : sheets[s].numbers.length != 7 ? -2 : 0;
    }

    private long whence(int s) {
        if (refused(s) != 0) {
            return refused(s);
        }
        int set = 0;
        for (int p = 0; p < 7; p++) {
            set += so(s, p) ? 1 << p : 0;
        }
        return set;
    }

    private long laws(int s, int a) {
        if (refused(s) != 0) {
            return refused(s);
        }
        if (!place(a)) {
            return -5;
        }
        int was = law;
        int set = 0;
        for (law = 0; law < texts.size(); law++) {
            set += so(s, a) ? 1 << law : 0;
        }
        law = was;
        return set;
    }

    private long film(int s, int a) {
        if (s < 0 || s > 3) {
            return -2;
        }
        if (!place(a)) {
            return -5;
        }
        long[] numbers = new long[7];
        for (int p = 0; p < 7; p++) {
            numbers[p] = soon(a, p, all());
        }
        sheets[s] = new Sheet(2, numbers);
        return 7;
    }

    // ---- years by lot

    private int drawn(int seed) {
        java.math.BigInteger lot = java.math.BigInteger.valueOf(seed + 1);
        int set = 0;
        for (int h = 0; h < horses.size(); h++) {
            lot = lot.multiply(java.math.BigInteger.valueOf(48271)).mod(java.math.BigInteger.valueOf(2147483647));
            set += lot.intValueExact() % 100 < says(2, horses.get(h)) ? 0 : 1 << h;
        }
        return set;
    }

    private long mean(int a, int b, int seed, int seeds, int part) {
        if (!place(a) || !place(b) || seed < 0 || seed > 99999 || seeds < 1 || seeds > 30 || part < 0 || part > 1) {
            return NO;
        }
        int above = 0;
        for (int i = 0; i < seeds; i++) {
            above += soon(a, b, drawn(seed + i));
        }
        int below = seeds;
        for (int d = seeds; d > 1; d--) {
            if (above % d == 0 && below % d == 0) {
                above /= d;
                below /= d;
            }
        }
        return part == 0 ? above : below;
    }

    private static int[][] copied(int[][] rows) {
        int[][] copy = new int[rows.length][];
        for (int i = 0; i < rows.length; i++) {
            copy[i] = rows[i].clone();
        }
        return copy;
    }

    private long keep() {
        List<Integer> ready = new ArrayList<>();
        for (Horse h : horses) {
            ready.add(h.ready);
        }
        image = new Image(copied(walks), ready, horses.size(), rides.size(), law);
        return horses.size();
    }

    private long back() {
        if (image == null) {
            return -3;
        }
        walks = copied(image.walks);
        horses = new ArrayList<>(horses.subList(0, image.horses));
        rides = new ArrayList<>(rides.subList(0, image.rides));
        for (int h = 0; h < image.horses; h++) {
            horses.set(h, standing(horses.get(h), image.ready.get(h)));
        }
        law = image.law;
        return horses.size();
    }

    // ---- the host

    private long sheet(int s, int sort, int n) {
        if (s < 0 || s > 3 || sort < -1 || sort > 2 || sort >= 0 && n > 40) {
            return -2;
        }
        if (sort >= 0 && n < 0) {
            return -14;
        }
        sheets[s] = sort < 0 ? null : new Sheet(sort, new long[n]);
        return 1;
    }

    private long cell(int s, int i, int v) {
        if (s < 0 || s > 3) {
            return -2;
        }
        if (sheets[s] == null) {
            return -11;
        }
        if (i < 0 || i >= sheets[s].numbers.length) {
            return -12;
        }
        sheets[s].numbers[i] = sheets[s].sort == 0 ? (byte) v : sheets[s].sort == 1 ? (short) v : v;
        return 1;
    }

    private long copy(int[] v) {
        if (v[0] < 0 || v[0] > 3 || v[2] < 0 || v[2] > 3) {
            return -2;
        }
        Sheet from = sheets[v[0]];
        Sheet to = sheets[v[2]];
        if (from == null || to == null) {
            return -11;
        }
        if (from.sort != to.sort) {
            return -13;
        }
        long i = v[1];
        long j = v[3];
        long n = v[4];
        if (i < 0 || j < 0 || n < 0 || i + n > from.numbers.length || j + n > to.numbers.length) {
            return -12;
        }
        long[] asTheyWere = from.numbers.clone();
        for (int k = 0; k < n; k++) {
            to.numbers[(int) j + k] = asTheyWere[(int) i + k];
        }
        return n;
    }

    private long horsesBy(int s, int sort, int at, int n) {
        if (s < 0 || s > 3 || sort < 0 || sort > 2 || n < 0 || n > 7) {
            return -2;
        }
        if (sheets[s] == null) {
            return -11;
        }
        if (sheets[s].sort != sort) {
            return -13;
        }
        int before = horses.size();
        long[] v = sheets[s].numbers;
        for (long i = at; i < at + 4L * n; i += 4) {
            if (i < 0 || i + 3 >= v.length) {
                return -12;
            }
            int k = (int) i;
            newHorse(v[k], v[k + 1], v[k + 2], v[k + 3]);
        }
        return horses.size() - before;
    }

    private long taken(int i, int kind) {
        if (kind < 0 || kind > 6) {
            return -2;
        }
        if (i < 0 || i > 10) {
            return -12;
        }
        if (i < 4 ? !ride(i) : !horse(i - 4)) {
            return -11;
        }
        if (i < 4) {
            return kind == 6 ? 10 * rides.get(i).from + rides.get(i).to : -13;
        }
        String[] kinds = {"0", "10", "20", "310", "420", "50"};
        return kinds[horses.get(i - 4).kind].contains("" + kind) ? i - 4 : -13;
    }
}
