/**
 * Horses' own ways: each horse knows but one way. Seven places, up to seven horses, and who is
 * where soonest; ../shared/DOC.md says what each call promises.
 *
 * <p>Everything that a call needs is made by the constructor and used again, because all calls of
 * a run share one small room: no call makes an object.
 */
public final class HorsesOwnWays {
    public static final int NONE = -1, BAD = -2, STATE = -3, FULL = -4;
    public static final long NO = -4611686018427387904L;

    private static final int NO_SUCH = -5, NOT_AS_TOLD = -7;
    private static final int NOTHING_THERE = -11, OUTSIDE = -12, OTHER_SORT = -13, BELOW_NOTHING = -14;
    private static final int NO_CUT = -1000000;
    private static final int FAULT_BASE = -100;

    private static final int PLACES = 7, MOST_HORSES = 7, MOST_RIDES = 4, MOST_TEXTS = 6;
    private static final int MOST_MINUTES = 999, MOST_MORE = 9, MOST_HUNDRED = 100;
    private static final int MOST_TAPE = 160, MOST_OPEN = 5, MOST_DIGITS = 4, MOST_FED = 5;
    private static final int MOST_SHEETS = 4, MOST_CELLS = 40;
    private static final int MOST_SEED = 99999, MOST_SEEDS = 30, MOST_LOST = 9999;

    private static final int KINDS = 6;
    private static final int HORSE = 0, BOTH = 1, FOAL = 2, BLIND = 3, HUNGRY = 4, HALF = 5;
    private static final int[] KIND_ABOVE = {NONE, HORSE, HORSE, BOTH, FOAL, HORSE};

    private static final int PARTS_OF_TEXT = 3;
    private static final int SAYS_OUT = 0, SAYS_HOME = 1, SAYS_DIES = 2;

    /** Stands where a HORSE's number may stand: one goes on foot. */
    private static final int FOOT = 7;

    /** What no minute reaches, and what an OUT may yet be added to. */
    private static final int NEVER = 1000000000;

    private static final long WHOLE = 1000000000L;
    private static final long LOT_FACTOR = 48271L, LOT_MODULUS = 2147483647L;

    /* The numbers of the WORDS are their places in this row, each as wide as the widest. */
    private static final String WORDS = "out  home dies or   and  not  told more from to   readyfar  ";
    private static final int WORD_WIDTH = 5, WORD_COUNT = 12;
    private static final int OUT = 0, OR = 3, AND = 4, NOT = 5;
    private static final int TOLD = 6, MORE = 7, FROM = 8, TO = 9, READY = 10, FAR = 11;

    private static final String SIGNS = "();+-*<=";
    private static final int FIRST_SIGN = 12;
    private static final int OPENING = 12, CLOSING = 13, SEMICOLON = 14, PLUS = 15, MINUS = 16;
    private static final int TIMES = 17, LESS = 18, LIKE = 19;

    private static final int NUMBER = 20, END = 21, BROKEN = 22;

    /** A step of a TEXT that no TOKEN is: the - ahead of a ONE. */
    private static final int NEGATE = 23;

    /** Steps from here on are NUMBERS: this, and the NUMBER. */
    private static final int FIRST_NUMBER = 100;

    /** Six E, one in another, leave 5 numbers each waiting at most, and the last one stands on these. */
    private static final int MOST_WAITING = 40;

    private final int[][] walks = new int[PLACES][PLACES];
    private final Horse[] horses = new Horse[MOST_HORSES];
    private final int[] rideFrom = new int[MOST_RIDES];
    private final int[] rideTo = new int[MOST_RIDES];
    private final Text[] texts = new Text[MOST_TEXTS];
    private final Reader reader = new Reader();
    private final Search search = new Search();
    private final Image kept = new Image();
    private final Sheet[] sheets = new Sheet[MOST_SHEETS];
    private int horseCount = 0;
    private int rideCount = 0;
    private int textCount = 1;
    private int law = 0;

    public HorsesOwnWays() {
        for (int a = 0; a < PLACES; a++) {
            for (int b = 0; b < PLACES; b++) {
                walks[a][b] = 30 * Math.abs(a - b);
            }
        }
        for (int h = 0; h < MOST_HORSES; h++) {
            horses[h] = new Horse();
        }
        for (int t = 0; t < MOST_TEXTS; t++) {
            texts[t] = new Text();
        }
        for (int s = 0; s < MOST_SHEETS; s++) {
            sheets[s] = new Sheet();
        }
    }

    // ---- places, rides, the law

    public int path(int a, int b, int v) {
        if (!isWay(a, b)) {
            return NO_SUCH;
        }
        if (!isWithin(v, 1, MOST_MINUTES)) {
            return NOT_AS_TOLD;
        }
        int was = walks[a][b];
        setWalk(a, b, v);
        return was;
    }

    public int pathTold(int a, int b) {
        return isPlace(a) && isPlace(b) ? walks[a][b] : NO_SUCH;
    }

    public int ride(int a, int b) {
        if (!isWay(a, b)) {
            return BAD;
        }
        if (rideCount >= MOST_RIDES) {
            return FULL;
        }
        rideFrom[rideCount] = a;
        rideTo[rideCount] = b;
        rideCount++;
        return rideCount - 1;
    }

    public int rideTold(int r, int what) {
        if (!isRide(r)) {
            return NO_SUCH;
        }
        if (!isWithin(what, 0, 1)) {
            return NOT_AS_TOLD;
        }
        return what == 0 ? rideFrom[r] : rideTo[r];
    }

    public int count(int what) {
        switch (what) {
            case 0: return horseCount;
            case 1: return rideCount;
            case 2: return textCount;
            case 3: return law;
            case 4: return reader.tape.size;
            default: return BAD;
        }
    }

    public int feed(int n, int a, int b, int c, int d, int e) {
        if (!isWithin(n, 1, MOST_FED) || !areBytes(a, b, c, d, e)) {
            return BAD;
        }
        Tape tape = reader.tape;
        if (tape.size + n > MOST_TAPE) {
            return FULL;
        }
        tape.add(a);
        if (n > 1) {
            tape.add(b);
        }
        if (n > 2) {
            tape.add(c);
        }
        if (n > 3) {
            tape.add(d);
        }
        if (n > 4) {
            tape.add(e);
        }
        return tape.size;
    }

    public int text() {
        if (textCount >= MOST_TEXTS) {
            return FULL;
        }
        int fault = reader.read(texts[textCount]);
        reader.tape.clear();
        if (fault != NONE) {
            return FAULT_BASE - fault;
        }
        textCount++;
        return textCount - 1;
    }

    public int force(int t) {
        if (!isWithin(t, 0, textCount - 1)) {
            return BAD;
        }
        int was = law;
        setLaw(t);
        return was;
    }

    public int asks(int part, int h) {
        if (!isHorse(h)) {
            return NO_SUCH;
        }
        switch (part) {
            case SAYS_OUT: return horses[h].saidOut;
            case SAYS_HOME: return horses[h].saidHome;
            case SAYS_DIES: return horses[h].dies;
            default: return NOT_AS_TOLD;
        }
    }

    // ---- horses

    public int horse(int kind, int fromTo, int told, int more) {
        boolean asTold = isWithin(kind, 0, KINDS - 1) && isWithin(fromTo, 0, 10 * PLACES)
                && isWay(fromTo / 10, fromTo % 10)
                && isWithin(told, 1, MOST_MINUTES) && isWithin(more, 0, MOST_MORE);
        if (!asTold) {
            return BAD;
        }
        if (horseCount >= MOST_HORSES) {
            return FULL;
        }
        horses[horseCount].become(kind, fromTo / 10, fromTo % 10, told, more);
        hearLaw(horses[horseCount]);
        horseCount++;
        return horseCount - 1;
    }

    public int stand(int h, int v) {
        if (!isHorse(h)) {
            return NO_SUCH;
        }
        if (!isWithin(v, 0, MOST_MINUTES)) {
            return NOT_AS_TOLD;
        }
        int was = horses[h].ready;
        horses[h].ready = v;
        hearLaw(horses[h]);
        return was;
    }

    public int told(int h, int what) {
        if (!isHorse(h)) {
            return NO_SUCH;
        }
        Horse horse = horses[h];
        switch (what) {
            case 0: return horse.kind;
            case 1: return horse.from;
            case 2: return horse.to;
            case 3: return horse.told;
            case 4: return horse.more;
            case 5: return horse.ready;
            case 6: return horse.out();
            case 7: return horse.home();
            default: return NOT_AS_TOLD;
        }
    }

    public int goes(int h, int p) {
        return isHorse(h) && isPlace(p) ? horses[h].goesFrom(p) : NO_SUCH;
    }

    public int at(int p) {
        if (!isPlace(p)) {
            return NO_SUCH;
        }
        int found = 0;
        for (int h = 0; h < horseCount; h++) {
            if (horses[h].goesFrom(p) != NONE) {
                found |= 1 << h;
            }
        }
        return found;
    }

    // ---- soonest

    public int soonest(int a, int b, int what) {
        if (!isPlace(a) || !isPlace(b)) {
            return NO_SUCH;
        }
        int soon = soonWith(allHorses(), a, b);
        search.traceTo(b);
        switch (what) {
            case 0: return soon;
            case 1: return search.wayHorses;
            case 2: return search.wayWalks;
            case 3: return search.pieceCount;
            case 4: return search.firstHorse();
            default: return NOT_AS_TOLD;
        }
    }

    public int piece(int a, int b, int i) {
        if (!isPlace(a) || !isPlace(b)) {
            return NO_SUCH;
        }
        if (i < 0) {
            return NOT_AS_TOLD;
        }
        soonWith(allHorses(), a, b);
        search.traceTo(b);
        return search.pieceAt(i);
    }

    public int both(int a, int b, int what) {
        if (!isRide(a) || !isRide(b)) {
            return NO_SUCH;
        }
        if (!isWithin(what, 0, 2)) {
            return NOT_AS_TOLD;
        }
        int bestLater = NEVER;
        int bestTogether = NEVER;
        int bestSet = 0;
        for (int set = 0; set <= allHorses(); set++) {
            int soonA = soonWith(set, rideFrom[a], rideTo[a]);
            int soonB = soonWith(allHorses() & ~set, rideFrom[b], rideTo[b]);
            int later = Math.max(soonA, soonB);
            int together = soonA + soonB;
            if (later < bestLater || later == bestLater && together < bestTogether) {
                bestLater = later;
                bestTogether = together;
                bestSet = set;
            }
        }
        return what == 0 ? bestLater : what == 1 ? bestTogether : bestSet;
    }

    public int all() {
        return ridden(allHorses());
    }

    public int worth(int h) {
        return isHorse(h) ? ridden(allHorses() & ~(1 << h)) - ridden(allHorses()) : NO_SUCH;
    }

    // ---- what would be better

    public int teach(int what) {
        if (!isWithin(what, 0, 1)) {
            return BAD;
        }
        if (horseCount >= MOST_HORSES) {
            return STATE;
        }
        int least = ridden(allHorses());
        int taught = NONE;
        // The first HORSE that isn't there yet lends its place, so that nothing is to be undone.
        Horse foal = horses[horseCount];
        for (int way = 0; way < PLACES * PLACES; way++) {
            int from = way / PLACES;
            int to = way % PLACES;
            if (from != to) {
                foal.become(HORSE, from, to, Math.max(1, walks[from][to] / 3), 0);
                hearLaw(foal);
                int then = ridden(allHorses() | 1 << horseCount);
                if (then < least) {
                    least = then;
                    taught = 10 * from + to;
                }
            }
        }
        return what == 0 ? taught : least;
    }

    public int move(int h, int what) {
        if (!isHorse(h)) {
            return NO_SUCH;
        }
        if (!isWithin(what, 0, 1)) {
            return NOT_AS_TOLD;
        }
        Horse horse = horses[h];
        int was = horse.from;
        int least = NEVER;
        int stable = NONE;
        for (int p = 0; p < PLACES; p++) {
            if (p != horse.to) {
                setFrom(horse, p);
                int then = ridden(allHorses());
                if (then < least) {
                    least = then;
                    stable = p;
                }
            }
        }
        setFrom(horse, was);
        return what == 0 ? stable : least;
    }

    public int cut(int a, int b, int minutes) {
        if (!isWay(a, b) || !isWithin(minutes, 1, MOST_MINUTES)) {
            return NO_CUT;
        }
        int now = ridden(allHorses());
        int was = walks[a][b];
        setWalk(a, b, minutes);
        int then = ridden(allHorses());
        setWalk(a, b, was);
        return now - then;
    }

    // ---- horses that die

    public long lost(int a, int b, int minutes) {
        if (!isPlace(a) || !isPlace(b) || !isWithin(minutes, 0, MOST_LOST)) {
            return NO;
        }
        long parts = 0;
        for (int set = 0; set <= allHorses(); set++) {
            if (soonWith(set, a, b) > minutes) {
                parts += lives(set);
            }
        }
        return parts;
    }

    public int needed(int a, int b, int what) {
        if (!isPlace(a) || !isPlace(b)) {
            return NO_SUCH;
        }
        if (!isWithin(what, 0, 1)) {
            return NOT_AS_TOLD;
        }
        int greatest = soonWith(allHorses(), a, b);
        int worst = NONE;
        for (int h = 0; h < horseCount; h++) {
            int then = soonWith(allHorses() & ~(1 << h), a, b);
            if (then > greatest) {
                greatest = then;
                worst = h;
            }
        }
        return what == 0 ? worst : greatest;
    }

    public int again(int a, int b) {
        if (!isPlace(a) || !isPlace(b)) {
            return NO_SUCH;
        }
        soonWith(allHorses(), a, b);
        search.traceTo(b);
        int longest = 0;
        for (int h = 0; h < horseCount; h++) {
            if (isIn(search.wayHorses, h)) {
                longest = Math.max(longest, horses[h].out() + horses[h].home());
            }
        }
        return longest;
    }

    public int doctor(int what) {
        if (!isWithin(what, 0, 1)) {
            return BAD;
        }
        int least = NEVER;
        int best = 0;
        for (int p = 0; p < PLACES; p++) {
            searchAll(p);
            int greatest = search.greatestSoon();
            if (greatest < least) {
                least = greatest;
                best = p;
            }
        }
        return what == 0 ? least : best;
    }

    // ---- told rides

    public int judge(int s, int a, int what) {
        if (!isSheet(s)) {
            return BAD;
        }
        Sheet sheet = sheets[s];
        if (sheet.isMissing()) {
            return NOTHING_THERE;
        }
        if (!isPlace(a)) {
            return NO_SUCH;
        }
        if (!isWithin(what, 0, 2)) {
            return NOT_AS_TOLD;
        }
        int place = a;
        int minute = 0;
        int told = 0;
        for (int i = 0; i < sheet.size; i++) {
            int piece = sheet.numberAt(i);
            if (!canBe(piece, place, told)) {
                return what == 0 ? i : what == 1 ? minute : place;
            }
            int by = piece / 10;
            int to = piece % 10;
            if (by == FOOT) {
                minute += walks[place][to];
            } else {
                minute = horses[by].arrives(minute);
                told |= 1 << by;
            }
            place = to;
        }
        return what == 0 ? NONE : what == 1 ? minute : place;
    }

    public int wet(int set, int what) {
        if (!isWithin(set, 0, allHorses()) || !isWithin(what, 0, 1)) {
            return BAD;
        }
        int found = 0;
        int first = NONE;
        for (int from = 0; from < PLACES; from++) {
            searchAll(from);
            for (int to = 0; to < PLACES; to++) {
                search.traceTo(to);
                if (from != to && search.wayHorses == set) {
                    found++;
                    first = first == NONE ? 10 * from + to : first;
                }
            }
        }
        return what == 0 ? found : first;
    }

    public int whence(int s) {
        int refusal = refusalOfSoons(s);
        if (refusal != 0) {
            return refusal;
        }
        int found = 0;
        for (int p = 0; p < PLACES; p++) {
            if (isSoFrom(p, sheets[s])) {
                found |= 1 << p;
            }
        }
        return found;
    }

    public int laws(int s, int a) {
        int refusal = refusalOfSoons(s);
        if (refusal != 0) {
            return refusal;
        }
        if (!isPlace(a)) {
            return NO_SUCH;
        }
        int was = law;
        int found = 0;
        for (int t = 0; t < textCount; t++) {
            setLaw(t);
            if (isSoFrom(a, sheets[s])) {
                found |= 1 << t;
            }
        }
        setLaw(was);
        return found;
    }

    public int film(int s, int a) {
        if (!isSheet(s)) {
            return BAD;
        }
        if (!isPlace(a)) {
            return NO_SUCH;
        }
        searchAll(a);
        sheets[s].become(Sheet.INTS, PLACES);
        for (int p = 0; p < PLACES; p++) {
            sheets[s].put(p, search.soonAt(p));
        }
        return PLACES;
    }

    // ---- years by lot

    public int drawn(int seed) {
        return isWithin(seed, 0, MOST_SEED) ? livingBy(seed) : BAD;
    }

    public long mean(int a, int b, int seed, int seeds, int part) {
        boolean asTold = isPlace(a) && isPlace(b) && isWithin(seed, 0, MOST_SEED)
                && isWithin(seeds, 1, MOST_SEEDS) && isWithin(part, 0, 1);
        if (!asTold) {
            return NO;
        }
        int sum = 0;
        for (int i = 0; i < seeds; i++) {
            sum += soonWith(livingBy(seed + i), a, b);
        }
        int common = greatestCommon(seeds, sum);
        return part == 0 ? sum / common : seeds / common;
    }

    public int image() {
        kept.there = true;
        kept.horseCount = horseCount;
        kept.rideCount = rideCount;
        kept.law = law;
        copyWalks(walks, kept.walks);
        for (int h = 0; h < horseCount; h++) {
            kept.ready[h] = horses[h].ready;
        }
        return horseCount;
    }

    public int back() {
        if (!kept.there) {
            return STATE;
        }
        horseCount = kept.horseCount;
        rideCount = kept.rideCount;
        copyWalks(kept.walks, walks);
        for (int h = 0; h < horseCount; h++) {
            horses[h].ready = kept.ready[h];
        }
        setLaw(kept.law);
        return horseCount;
    }

    // ---- the host

    public int sheet(int s, int sort, int n) {
        if (!isSheet(s) || !isWithin(sort, Sheet.MISSING, Sheet.INTS)) {
            return BAD;
        }
        if (sort == Sheet.MISSING) {
            sheets[s].become(sort, 0);
            return 1;
        }
        if (n > MOST_CELLS) {
            return BAD;
        }
        if (n < 0) {
            return BELOW_NOTHING;
        }
        sheets[s].become(sort, n);
        return 1;
    }

    public int cell(int s, int i, int v) {
        if (!isSheet(s)) {
            return BAD;
        }
        if (sheets[s].isMissing()) {
            return NOTHING_THERE;
        }
        if (!sheets[s].holds(i, 1)) {
            return OUTSIDE;
        }
        sheets[s].put(i, v);
        return 1;
    }

    public int copy(int s, int i, int other, int j, int n) {
        if (!isSheet(s) || !isSheet(other)) {
            return BAD;
        }
        Sheet source = sheets[s];
        Sheet target = sheets[other];
        if (source.isMissing() || target.isMissing()) {
            return NOTHING_THERE;
        }
        if (source.sort != target.sort) {
            return OTHER_SORT;
        }
        if (!source.holds(i, n) || !target.holds(j, n)) {
            return OUTSIDE;
        }
        System.arraycopy(source.numbers, i, target.numbers, j, n);
        return n;
    }

    public int horsesBy(int s, int sort, int at, int n) {
        if (!isSheet(s) || !isWithin(sort, Sheet.BYTES, Sheet.INTS) || !isWithin(n, 0, MOST_HORSES)) {
            return BAD;
        }
        Sheet sheet = sheets[s];
        if (sheet.isMissing()) {
            return NOTHING_THERE;
        }
        if (sheet.sort != sort) {
            return OTHER_SORT;
        }
        int came = 0;
        int next = at;
        for (int i = 0; i < n; i++) {
            if (!sheet.holds(next, 4)) {
                return OUTSIDE;
            }
            int number = horse(sheet.numberAt(next), sheet.numberAt(next + 1),
                    sheet.numberAt(next + 2), sheet.numberAt(next + 3));
            came += number >= 0 ? 1 : 0;
            next += 4;
        }
        return came;
    }

    public int taken(int i, int kind) {
        if (!isWithin(kind, 0, KINDS)) {
            return BAD;
        }
        if (!isWithin(i, 0, MOST_RIDES + MOST_HORSES - 1)) {
            return OUTSIDE;
        }
        boolean asRide = kind == KINDS;
        if (i < MOST_RIDES) {
            if (!isRide(i)) {
                return NOTHING_THERE;
            }
            return asRide ? 10 * rideFrom[i] + rideTo[i] : OTHER_SORT;
        }
        int h = i - MOST_RIDES;
        if (!isHorse(h)) {
            return NOTHING_THERE;
        }
        return !asRide && horses[h].isOne(kind) ? h : OTHER_SORT;
    }

    // ---- what is such a thing

    private static boolean isWithin(int v, int least, int most) {
        return v >= least && v <= most;
    }

    private static boolean isPlace(int p) {
        return isWithin(p, 0, PLACES - 1);
    }

    private static boolean isWay(int a, int b) {
        return isPlace(a) && isPlace(b) && a != b;
    }

    private static boolean isByte(int v) {
        return isWithin(v, 0, 255);
    }

    private static boolean areBytes(int a, int b, int c, int d, int e) {
        return isByte(a) && isByte(b) && isByte(c) && isByte(d) && isByte(e);
    }

    private static boolean isSheet(int s) {
        return isWithin(s, 0, MOST_SHEETS - 1);
    }

    private boolean isHorse(int h) {
        return isWithin(h, 0, horseCount - 1);
    }

    private boolean isRide(int r) {
        return isWithin(r, 0, rideCount - 1);
    }

    private static boolean isIn(int set, int h) {
        return (set >> h & 1) != 0;
    }

    // ---- changes that what THE LAW says depends on

    private void setWalk(int a, int b, int minutes) {
        walks[a][b] = minutes;
        walks[b][a] = minutes;
        hearLawAll();
    }

    private void setFrom(Horse horse, int from) {
        horse.from = from;
        hearLaw(horse);
    }

    private void setLaw(int t) {
        law = t;
        hearLawAll();
    }

    private void hearLawAll() {
        for (int h = 0; h < horseCount; h++) {
            hearLaw(horses[h]);
        }
    }

    private void hearLaw(Horse horse) {
        Text text = texts[law];
        int far = walks[horse.from][horse.to];
        horse.saidOut = bounded(text.says(SAYS_OUT, horse, far), 1, MOST_MINUTES);
        horse.saidHome = bounded(text.says(SAYS_HOME, horse, far), 1, MOST_MINUTES);
        horse.dies = bounded(text.says(SAYS_DIES, horse, far), 0, MOST_HUNDRED);
    }

    private static int bounded(int v, int least, int most) {
        return Math.max(least, Math.min(v, most));
    }

    private static void copyWalks(int[][] from, int[][] to) {
        for (int a = 0; a < PLACES; a++) {
            System.arraycopy(from[a], 0, to[a], 0, PLACES);
        }
    }

    // ---- what is soon, and by whom

    private int allHorses() {
        return (1 << horseCount) - 1;
    }

    private int soonWith(int set, int a, int b) {
        search.setOut(walks, horses, set, a, b);
        return search.soonAt(b);
    }

    private void searchAll(int from) {
        search.setOut(walks, horses, allHorses(), from, NONE);
    }

    private int ridden(int set) {
        int sum = 0;
        for (int r = 0; r < rideCount; r++) {
            sum += soonWith(set, rideFrom[r], rideTo[r]);
        }
        return sum;
    }

    private long lives(int set) {
        long parts = WHOLE;
        for (int h = 0; h < horseCount; h++) {
            int dies = horses[h].dies;
            parts = parts * (isIn(set, h) ? MOST_HUNDRED - dies : dies) / MOST_HUNDRED;
        }
        return parts;
    }

    private int livingBy(int seed) {
        int living = 0;
        long lot = seed + 1L;
        for (int h = 0; h < horseCount; h++) {
            lot = lot * LOT_FACTOR % LOT_MODULUS;
            if (lot % 100 >= horses[h].dies) {
                living |= 1 << h;
            }
        }
        return living;
    }

    private static int greatestCommon(int a, int b) {
        int greater = a;
        int rest = b;
        // A division's rest halves in two steps at least, so that 64 steps end every pair of ints.
        for (int i = 0; i < 64 && rest != 0; i++) {
            int next = greater % rest;
            greater = rest;
            rest = next;
        }
        return Math.max(1, greater);
    }

    private boolean canBe(int piece, int place, int told) {
        if (piece < 0 || piece / 10 > FOOT || !isPlace(piece % 10) || piece % 10 == place) {
            return false;
        }
        int by = piece / 10;
        if (by == FOOT) {
            return true;
        }
        return isHorse(by) && !isIn(told, by) && horses[by].goesFrom(place) == piece % 10;
    }

    /** 0: none. */
    private int refusalOfSoons(int s) {
        if (!isSheet(s)) {
            return BAD;
        }
        if (sheets[s].isMissing()) {
            return NOTHING_THERE;
        }
        return sheets[s].size == PLACES ? 0 : BAD;
    }

    private boolean isSoFrom(int from, Sheet sheet) {
        searchAll(from);
        for (int p = 0; p < PLACES; p++) {
            if (search.soonAt(p) != sheet.numberAt(p)) {
                return false;
            }
        }
        return true;
    }

    /** A HORSE of any KIND; its number is its place in the row. */
    private static final class Horse {
        int kind = 0;
        int from = 0;
        int to = 1;
        int told = 1;
        int more = 0;
        int ready = 0;
        int saidOut = 1;
        int saidHome = 1;
        int dies = 0;

        void become(int newKind, int newFrom, int newTo, int newTold, int newMore) {
            kind = newKind;
            from = newFrom;
            to = newTo;
            told = newTold;
            more = newMore;
            ready = 0;
        }

        int named(int name, int far) {
            switch (name) {
                case TOLD: return told;
                case MORE: return more;
                case FROM: return from;
                case TO: return to;
                case READY: return ready;
                default: return far;
            }
        }

        boolean isOne(int wanted) {
            int is = kind;
            for (int i = 0; i < KINDS && is != wanted && is >= 0 && is < KIND_ABOVE.length; i++) {
                is = KIND_ABOVE[is];
            }
            return is == wanted;
        }

        int goesFrom(int place) {
            switch (kind) {
                case BOTH: return goesToAndFro(place);
                case BLIND: return place == from || place == to ? (goesToAndFro(place) + 1) % PLACES : NONE;
                case HALF: return place == from ? more % PLACES : NONE;
                default: return place == from ? to : NONE;
            }
        }

        private int goesToAndFro(int place) {
            return place == from ? to : place == to ? from : NONE;
        }

        int out() {
            switch (kind) {
                case FOAL:
                case HUNGRY: return saidOut + more;
                case HALF: return Math.max(1, saidOut / 2);
                default: return saidOut;
            }
        }

        int home() {
            return kind == HUNGRY ? 2 * saidHome + more : saidHome;
        }

        int arrives(int minute) {
            return Math.max(minute, ready) + out();
        }
    }

    /** Setting out from a PLACE with some HORSES: when, and by what, one is at each PLACE. */
    private static final class Search {
        private final int[] soon = new int[PLACES];
        private final int[] by = new int[PLACES];
        private final int[] before = new int[PLACES];
        private final boolean[] left = new boolean[PLACES];
        private final int[] piecesFromLast = new int[PLACES];
        int pieceCount = 0;
        int wayHorses = 0;
        int wayWalks = 0;

        /** Of the PLACES that are later than the one to stop at (NONE: there is none), it tells nothing. */
        void setOut(int[][] walks, Horse[] horses, int set, int from, int stop) {
            for (int p = 0; p < PLACES; p++) {
                soon[p] = p == from ? 0 : NEVER;
                by[p] = NONE;
                before[p] = from;
                left[p] = false;
            }
            for (int i = 0; i < PLACES; i++) {
                int place = soonestNotLeft();
                if (place == stop || place == NONE) {
                    return;
                }
                left[place] = true;
                leaveByHorse(horses, set, place);
                leaveOnFoot(walks[place], place);
            }
        }

        private int soonestNotLeft() {
            int best = NONE;
            for (int p = 0; p < PLACES; p++) {
                if (!left[p] && (best == NONE || soon[p] < soon[best])) {
                    best = p;
                }
            }
            return best;
        }

        private void leaveByHorse(Horse[] horses, int set, int place) {
            for (int h = 0; h < MOST_HORSES; h++) {
                if (isIn(set, h)) {
                    int to = horses[h].goesFrom(place);
                    if (to != NONE && to != place) {
                        arrive(to, horses[h].arrives(soon[place]), h, place);
                    }
                }
            }
        }

        private void leaveOnFoot(int[] walksFrom, int place) {
            for (int to = 0; to < PLACES; to++) {
                if (to != place) {
                    arrive(to, soon[place] + walksFrom[to], FOOT, place);
                }
            }
        }

        private void arrive(int to, int minute, int carrier, int from) {
            if (minute < soon[to]) {
                soon[to] = minute;
                by[to] = carrier;
                before[to] = from;
            }
        }

        int soonAt(int place) {
            return soon[place];
        }

        int greatestSoon() {
            int greatest = 0;
            for (int p = 0; p < PLACES; p++) {
                greatest = Math.max(greatest, soon[p]);
            }
            return greatest;
        }

        /** THE WAY to a PLACE, from its last PIECE back. */
        void traceTo(int to) {
            pieceCount = 0;
            wayHorses = 0;
            wayWalks = 0;
            int place = to;
            for (int i = 0; i < PLACES && by[place] != NONE; i++) {
                piecesFromLast[i] = 10 * by[place] + place;
                pieceCount++;
                if (by[place] == FOOT) {
                    wayWalks += soon[place] - soon[before[place]];
                } else {
                    wayHorses |= 1 << by[place];
                }
                place = before[place];
            }
        }

        int pieceAt(int i) {
            return i >= 0 && i < pieceCount ? piecesFromLast[pieceCount - 1 - i] : NONE;
        }

        int firstHorse() {
            int first = pieceAt(0);
            return first == NONE || first / 10 == FOOT ? NONE : first / 10;
        }
    }

    /** A TEXT as steps upon a stack of numbers, one row for its three parts; at first TEXT 0. */
    private static final class Text {
        private final int[] steps = new int[MOST_TAPE];
        private final int[] ends = new int[PARTS_OF_TEXT];
        private final int[] stack = new int[MOST_WAITING];
        private int size = 3;

        Text() {
            steps[0] = TOLD;
            steps[1] = TOLD;
            steps[2] = MORE;
            for (int part = 0; part < PARTS_OF_TEXT; part++) {
                ends[part] = part + 1;
            }
        }

        void clear() {
            size = 0;
        }

        void add(int step) {
            if (size < steps.length) {
                steps[size] = step;
                size++;
            }
        }

        void endPart(int part) {
            ends[part] = size;
        }

        int says(int part, Horse horse, int far) {
            int height = 0;
            for (int i = part == 0 ? 0 : ends[part - 1]; i < ends[part]; i++) {
                height = take(steps[i], height, horse, far);
            }
            return stack[0];
        }

        /** How high the stack is then. */
        private int take(int step, int height, Horse horse, int far) {
            if (step >= FIRST_NUMBER) {
                return push(step - FIRST_NUMBER, height);
            }
            if (isWithin(step, TOLD, FAR)) {
                return push(horse.named(step, far), height);
            }
            if (step == NOT || step == NEGATE) {
                if (height >= 1) {
                    int top = stack[height - 1];
                    stack[height - 1] = step == NEGATE ? -top : top == 0 ? 1 : 0;
                }
                return height;
            }
            if (height < 2) {
                return height;
            }
            stack[height - 2] = joined(step, stack[height - 2], stack[height - 1]);
            return height - 1;
        }

        private int push(int v, int height) {
            if (height >= stack.length) {
                return height;
            }
            stack[height] = v;
            return height + 1;
        }

        private static int joined(int step, int a, int b) {
            switch (step) {
                case OR: return a != 0 || b != 0 ? 1 : 0;
                case AND: return a != 0 && b != 0 ? 1 : 0;
                case LESS: return a < b ? 1 : 0;
                case LIKE: return a == b ? 1 : 0;
                case PLUS: return a + b;
                case MINUS: return a - b;
                default: return a * b;
            }
        }
    }

    /** THE TAPE, and its TOKENS one by one. */
    private static final class Tape {
        private final int[] bytes = new int[MOST_TAPE];
        int size = 0;
        private int place = 0;
        int start = 0;
        int number = 0;

        void add(int v) {
            if (size < bytes.length) {
                bytes[size] = v;
                size++;
            }
        }

        void clear() {
            size = 0;
        }

        void rewind() {
            place = 0;
        }

        /** The next TOKEN, which begins at start; END at the size. */
        int next() {
            while (place < size && (bytes[place] == 32 || bytes[place] == 10)) {
                place++;
            }
            start = place;
            if (place >= size) {
                return END;
            }
            if (isLetter()) {
                return nextWord();
            }
            if (isDigit()) {
                return nextNumber();
            }
            int sign = SIGNS.indexOf((char) bytes[place]);
            place++;
            return sign < 0 ? BROKEN : FIRST_SIGN + sign;
        }

        private boolean isLetter() {
            return bytes[place] >= 'a' && bytes[place] <= 'z';
        }

        private boolean isDigit() {
            return bytes[place] >= '0' && bytes[place] <= '9';
        }

        private int nextWord() {
            while (place < size && isLetter()) {
                place++;
            }
            for (int w = 0; w < WORD_COUNT; w++) {
                if (isWord(w)) {
                    return w;
                }
            }
            return BROKEN;
        }

        private boolean isWord(int w) {
            int length = place - start;
            if (length > WORD_WIDTH) {
                return false;
            }
            for (int i = 0; i < WORD_WIDTH; i++) {
                int stands = i < length ? bytes[start + i] : ' ';
                if (stands != WORDS.charAt(w * WORD_WIDTH + i)) {
                    return false;
                }
            }
            return true;
        }

        private int nextNumber() {
            number = 0;
            while (place < size && isDigit()) {
                number = 10 * number + bytes[place] - '0';
                place++;
            }
            return place - start > MOST_DIGITS ? BROKEN : NUMBER;
        }
    }

    /** Reads THE TAPE by its grammar; once a FAULT is found, no TOKEN fits any more. */
    private static final class Reader {
        final Tape tape = new Tape();
        private int token = BROKEN;
        private int fault = NONE;

        /** The place of the FAULT; NONE: there is none. */
        int read(Text text) {
            fault = NONE;
            tape.rewind();
            text.clear();
            token = tape.next();
            for (int part = 0; part < PARTS_OF_TEXT; part++) {
                expect(OUT + part);
                readOr(text, 0);
                expect(SEMICOLON);
                text.endPart(part);
            }
            expect(END);
            return fault;
        }

        private void expect(int wanted) {
            if (token == wanted) {
                token = tape.next();
            } else {
                fail();
            }
        }

        private void fail() {
            if (fault == NONE) {
                fault = tape.start;
            }
            token = BROKEN;
        }

        private void readOr(Text text, int open) {
            readAnd(text, open);
            for (int i = 0; i < MOST_TAPE && token == OR; i++) {
                expect(OR);
                readAnd(text, open);
                text.add(OR);
            }
        }

        private void readAnd(Text text, int open) {
            readNot(text, open);
            for (int i = 0; i < MOST_TAPE && token == AND; i++) {
                expect(AND);
                readNot(text, open);
                text.add(AND);
            }
        }

        private void readNot(Text text, int open) {
            if (token != NOT) {
                readComparison(text, open);
            } else if (open >= MOST_OPEN) {
                fail();
            } else {
                expect(NOT);
                readNot(text, open + 1);
                text.add(NOT);
            }
        }

        private void readComparison(Text text, int open) {
            readSum(text, open);
            if (token == LESS || token == LIKE) {
                int sign = token;
                expect(sign);
                readSum(text, open);
                text.add(sign);
            }
        }

        private void readSum(Text text, int open) {
            readTerm(text, open);
            for (int i = 0; i < MOST_TAPE && (token == PLUS || token == MINUS); i++) {
                int sign = token;
                expect(sign);
                readTerm(text, open);
                text.add(sign);
            }
        }

        private void readTerm(Text text, int open) {
            readOne(text, open);
            for (int i = 0; i < MOST_TAPE && token == TIMES; i++) {
                expect(TIMES);
                readOne(text, open);
                text.add(TIMES);
            }
        }

        private void readOne(Text text, int open) {
            if (token == NUMBER) {
                text.add(FIRST_NUMBER + tape.number);
                expect(NUMBER);
            } else if (isWithin(token, TOLD, FAR)) {
                text.add(token);
                expect(token);
            } else if (open >= MOST_OPEN || token != MINUS && token != OPENING) {
                fail();
            } else if (token == MINUS) {
                expect(MINUS);
                readOne(text, open + 1);
                text.add(NEGATE);
            } else {
                expect(OPENING);
                readOr(text, open + 1);
                expect(CLOSING);
            }
        }
    }

    /** A row of numbers of a sort, or missing. */
    private static final class Sheet {
        static final int MISSING = -1, BYTES = 0, SHORTS = 1, INTS = 2;

        final int[] numbers = new int[MOST_CELLS];
        int sort = MISSING;
        int size = 0;

        void become(int newSort, int newSize) {
            sort = newSort;
            size = Math.max(0, Math.min(newSize, MOST_CELLS));
            for (int i = 0; i < MOST_CELLS; i++) {
                numbers[i] = 0;
            }
        }

        boolean isMissing() {
            return sort == MISSING;
        }

        /** Whether n numbers stand from place i on; size less n can't wrap, as i and n together could. */
        boolean holds(int i, int n) {
            return i >= 0 && n >= 0 && n <= size && i <= size - n;
        }

        int numberAt(int i) {
            return holds(i, 1) ? numbers[i] : 0;
        }

        void put(int i, int v) {
            if (holds(i, 1)) {
                numbers[i] = sort == BYTES ? (byte) v : sort == SHORTS ? (short) v : v;
            }
        }
    }

    /** AN IMAGE. */
    private static final class Image {
        final int[][] walks = new int[PLACES][PLACES];
        final int[] ready = new int[MOST_HORSES];
        boolean there = false;
        int horseCount = 0;
        int rideCount = 0;
        int law = 0;
    }
}
