/** A town in which a promise binds those who hear it said. */
public final class WhoeverHeard {
    public static final int NONE = -1, BAD = -2, STATE = -3, FULL = -4;
    public static final long NO = -4611686018427387904L;

    // The refusals that the document tells by their numbers alone.
    private static final int NO_SUCH = -5, NOT_SO = -7;
    private static final int NOTHING = -11, OUTSIDE = -12, UNLIKE = -13, BELOW = -14;
    private static final int FAULTS = -100;

    private static final int PLACES = 6, MINUTES = 6, PEOPLE = 8, PROMISES = 8, SAYINGS = 10;
    private static final int TEXTS = 6, TAPE = 160, SHEETS = 4, CELLS = 40;
    // One row more than SAYINGS: there stands what would be said once more.
    private static final int ROWS = SAYINGS + 1;
    private static final int HOWS = 600;

    private static final int PERSON = 0, WALKER = 1, DEAF = 2, BUYER = 3, CHILD = 4, SHY = 5;
    private static final int KINDS = 6;
    private static final int[] KIND_ABOVE = {NONE, PERSON, PERSON, WALKER, PERSON, WALKER};

    private static final int CLEARLY = 50;
    private static final int WHOLE = 1000000;
    private static final int LAST_SEED = 99999, MOST_SEEDS = 20;
    private static final long LOT_FACTOR = 48271L, LOT_MODULUS = 2147483647L;
    private static final int MOST_MOVES = 6;

    // What an E of a TEXT is for, and the NAMES it may tell.
    private static final int HEARD_PART = 0, SHARE_PART = 1, PAIN_PART = 2, PARTS = 3;
    private static final int LOUD = 0, FAR = 1, EAR = 2, NEED = 3, MANY = 4, BASE = 5, NAMES = 6;

    // The sorts of TOKENS; a SIGN's sort is its own byte.
    private static final int END = 0, BROKEN = 1, NUMBER = 2, NAME = 3;
    private static final int HEARD_KEY = 4, SHARE_KEY = 5, PAIN_KEY = 6;
    private static final int OR_KEY = 7, AND_KEY = 8, NOT_KEY = 9;
    // Not a TOKEN, but what a - ahead of a ONE does.
    private static final int NEGATE = 10;

    // A step of a TEXT is a number, or from here on a NAME, or from there on what is done.
    private static final int NAME_STEP = 10000, DO_STEP = 20000;

    private static final int DIGITS = 4, OPEN = 5;
    private static final int OR_LEVEL = 0, AND_LEVEL = 1, NOT_LEVEL = 2, SUM_LEVEL = 3,
        TERM_LEVEL = 4, ONE_LEVEL = 5;

    private static final String FIRST_LAW =
        "heard 40 + loud * 12 - far * 15 + ear * 3 ; share need ; pain need * base ;";

    private static final int MISSING = -1, BYTES = 0, SHORTS = 1, INTS = 2;
    private static final int PROMISE_CELLS = 4;

    private final Town town;
    private final Folk folk;
    private final Vows vows;
    private final Sayings sayings;
    private final Reader reader;
    private final Texts texts;
    private final Ledger ledger;
    private final Image kept;
    private final Sheets sheets;

    public WhoeverHeard() {
        town = new Town();
        folk = new Folk();
        vows = new Vows();
        sayings = new Sayings();
        reader = new Reader();
        texts = new Texts();
        ledger = new Ledger(town, folk, vows, sayings, texts);
        kept = new Image();
        sheets = new Sheets();
        for (int i = 0; i < FIRST_LAW.length(); i++) {
            reader.put(FIRST_LAW.charAt(i));
        }
        if (reader.reads()) {
            texts.add(reader);
        }
        reader.clear();
    }

    // ---- the town, the law

    public int far(int u, int v, int d) {
        if (!within(u, 0, PLACES - 1) || !within(v, 0, PLACES - 1) || u == v) {
            return NONE;
        }
        if (!within(d, 0, 9)) {
            return BAD;
        }
        int was = town.between(u, v);
        town.setBetween(u, v, d);
        return was;
    }

    public int hush(int t, int v) {
        if (!within(t, 0, MINUTES - 1)) {
            return NONE;
        }
        if (!within(v, 0, 9)) {
            return BAD;
        }
        int was = town.noise[t];
        town.noise[t] = v;
        return was;
    }

    public int stride(int v) {
        if (!within(v, 0, 9)) {
            return BAD;
        }
        int was = town.step;
        town.step = v;
        return was;
    }

    public int count(int what) {
        switch (what) {
            case 0: return town.step;
            case 1: return folk.many;
            case 2: return vows.many;
            case 3: return sayings.many;
            case 4: return texts.many;
            case 5: return texts.law;
            case 6: return reader.size;
            default: return BAD;
        }
    }

    public int feed(int n, int a, int b, int c, int d, int e) {
        if (!within(n, 1, 5) || !isByte(a) || !isByte(b) || !isByte(c) || !isByte(d) || !isByte(e)) {
            return BAD;
        }
        if (reader.size + n > TAPE) {
            return FULL;
        }
        for (int i = 0; i < n; i++) {
            reader.put(i == 0 ? a : i == 1 ? b : i == 2 ? c : i == 3 ? d : e);
        }
        return reader.size;
    }

    public int text() {
        if (texts.many >= TEXTS) {
            return FULL;
        }
        int answer = reader.reads() ? texts.add(reader) : FAULTS - reader.fault();
        reader.clear();
        return answer;
    }

    public int force(int t) {
        if (!within(t, 0, texts.many - 1)) {
            return BAD;
        }
        int was = texts.law;
        texts.law = t;
        return was;
    }

    // ---- people, promises, sayings

    public int person(int kind, int what, int works, int load) {
        if (!within(kind, 0, KINDS - 1) || !within(what, 0, 100 * PLACES - 1)
            || !isByte(works) || !within(load, 100, 999)) {
            return BAD;
        }
        if (folk.many >= PEOPLE) {
            return FULL;
        }
        return folk.add(kind, what, works, load);
    }

    public int move(int p, int u) {
        if (!folk.has(p)) {
            return NO_SUCH;
        }
        if (!within(u, NONE, PLACES - 1)) {
            return NOT_SO;
        }
        int was = folk.moved[p];
        folk.moved[p] = u;
        return was;
    }

    public int told(int p, int what) {
        if (!folk.has(p)) {
            return NO_SUCH;
        }
        switch (what) {
            case 0: return folk.kind[p];
            case 1: return folk.home[p];
            case 2: return folk.ear[p];
            case 3: return folk.more[p];
            case 4: return folk.works[p];
            case 5: return folk.pains[p];
            case 6: return folk.room[p];
            default: return within(what, 7, 12) ? folk.placeOf(p, what - 7) : NOT_SO;
        }
    }

    public int promise(int w, int n, int v, int against) {
        if (!within(w, 0, 7) || !within(n, 1, 99) || !within(v, 0, 99)
            || !within(against, NONE, vows.many - 1)) {
            return BAD;
        }
        if (vows.many >= PROMISES) {
            return FULL;
        }
        return vows.add(w, n, v, against);
    }

    public int promised(int q, int what) {
        if (!vows.has(q)) {
            return NO_SUCH;
        }
        switch (what) {
            case 0: return vows.work[q];
            case 1: return vows.needs[q];
            case 2: return vows.worth[q];
            case 3: return vows.contrary[q];
            default: return NOT_SO;
        }
    }

    public int say(int q, int how) {
        if (!vows.has(q) || !isHow(how)) {
            return BAD;
        }
        if (sayings.many >= SAYINGS) {
            return FULL;
        }
        int s = sayings.many;
        sayings.put(s, q, how);
        sayings.many = s + 1;
        return s;
    }

    public int unsay() {
        if (sayings.many <= 0) {
            return STATE;
        }
        sayings.many--;
        return sayings.many;
    }

    public int said(int s, int what) {
        if (!sayings.has(s)) {
            return NO_SUCH;
        }
        switch (what) {
            case 0: return sayings.vow[s];
            case 1: return sayings.place[s];
            case 2: return sayings.minute[s];
            case 3: return sayings.volume[s];
            default: return NOT_SO;
        }
    }

    // ---- who hears, owes, what is kept

    public int hears(int s, int p) {
        if (!sayings.has(s) || !folk.has(p)) {
            return NO_SUCH;
        }
        ledger.listen(texts.law);
        return ledger.hearing[s * PEOPLE + p];
    }

    public int heard(int s) {
        if (!sayings.has(s)) {
            return NO_SUCH;
        }
        ledger.listen(texts.law);
        return ledger.clear[s];
    }

    public int nobody() {
        ledger.listen(texts.law);
        int bits = 0;
        for (int s = 0; s < sayings.many; s++) {
            if (ledger.clear[s] == 0) {
                bits |= 1 << s;
            }
        }
        return bits;
    }

    public int owe(int p, int q) {
        if (!folk.has(p) || !vows.has(q)) {
            return NO_SUCH;
        }
        ledger.reckon(texts.law);
        return ledger.owed[p * PROMISES + q];
    }

    public int load(int p, int what) {
        if (!folk.has(p)) {
            return NO_SUCH;
        }
        if (!within(what, 0, 4)) {
            return NOT_SO;
        }
        ledger.reckon(texts.law);
        switch (what) {
            case 0: return ledger.total[p];
            case 1: return ledger.struck[p];
            case 2: return ledger.beyond[p];
            case 3: return ledger.painOf(p);
            default: return folk.room[p] - ledger.total[p];
        }
    }

    public int done(int q) {
        if (!vows.has(q)) {
            return NO_SUCH;
        }
        ledger.reckon(texts.law);
        return ledger.doneOf(q);
    }

    public int sum(int what) {
        if (!within(what, 0, 3)) {
            return BAD;
        }
        ledger.reckon(texts.law);
        return what == 3 ? ledger.fullBits() : ledger.outcome(what);
    }

    // ---- the sayer, one saying more

    public int judge() {
        for (int s = 1; s < sayings.many; s++) {
            int minutes = sayings.minute[s] - sayings.minute[s - 1];
            if (minutes < 0 || wayTo(s) > town.step * minutes) {
                return s;
            }
        }
        return NONE;
    }

    public int walk() {
        int way = 0;
        for (int s = 1; s < sayings.many; s++) {
            way += wayTo(s);
        }
        return way;
    }

    public int best(int q, int what) {
        if (!vows.has(q)) {
            return NO_SUCH;
        }
        if (!within(what, 0, 1)) {
            return NOT_SO;
        }
        ledger.reckon(texts.law);
        int least = NONE;
        int first = NONE;
        for (int how = 0; how < HOWS; how++) {
            if (!isHow(how)) {
                continue;
            }
            ledger.sayMore(q, how);
            if (!ledger.keeps(q)) {
                continue;
            }
            int pain = ledger.painOfAll();
            if (first == NONE || pain < least) {
                first = how;
                least = pain;
            }
        }
        return what == 0 ? first : least;
    }

    public int foe(int p, int q, int what) {
        if (!folk.has(p) || !vows.has(q)) {
            return NO_SUCH;
        }
        if (!within(what, 0, 1)) {
            return NOT_SO;
        }
        ledger.reckon(texts.law);
        int most = NONE;
        int first = NONE;
        for (int how = 0; how < HOWS; how++) {
            if (!isHow(how)) {
                continue;
            }
            ledger.sayMore(q, how);
            if (ledger.total[p] > most) {
                first = how;
                most = ledger.total[p];
            }
        }
        return what == 0 ? first : most;
    }

    public int loud(int q, int u, int t) {
        if (!vows.has(q)) {
            return NO_SUCH;
        }
        if (!within(u, 0, PLACES - 1) || !within(t, 0, MINUTES - 1)) {
            return NOT_SO;
        }
        ledger.reckon(texts.law);
        for (int volume = 1; volume <= 9; volume++) {
            ledger.sayMore(q, 100 * u + 10 * t + volume);
            if (ledger.keeps(q)) {
                return volume;
            }
        }
        return NONE;
    }

    public int spare() {
        ledger.reckon(texts.law);
        int kept = ledger.keptBits();
        int bits = 0;
        for (int s = 0; s < sayings.many; s++) {
            ledger.settle(sayings.many, s);
            if ((kept & ~ledger.keptBits()) == 0) {
                bits |= 1 << s;
            }
        }
        return bits;
    }

    // ---- even loads, flights

    public int even(int q, int p) {
        if (!vows.has(q) || !folk.has(p)) {
            return NO_SUCH;
        }
        ledger.listen(texts.law);
        return ledger.sharesOut(q) ? ledger.even[p] : STATE;
    }

    public int hardest(int q) {
        if (!vows.has(q)) {
            return NO_SUCH;
        }
        ledger.listen(texts.law);
        if (!ledger.sharesOut(q)) {
            return NONE;
        }
        int most = 0;
        for (int p = 0; p < folk.many; p++) {
            most = Math.max(most, folk.pains[p] * ledger.even[p]);
        }
        return most;
    }

    public int flee(int p, int what) {
        if (!folk.has(p)) {
            return NO_SUCH;
        }
        if (!within(what, 0, 1)) {
            return NOT_SO;
        }
        ledger.listen(texts.law);
        ledger.tryPlaces(p);
        int u = leastOf(ledger.byPlace);
        return what == 0 ? u : ledger.byPlace[u];
    }

    public int send(int p, int what) {
        if (!folk.has(p)) {
            return NO_SUCH;
        }
        if (!within(what, 0, 1)) {
            return NOT_SO;
        }
        ledger.listen(texts.law);
        ledger.tryPlaces(p);
        int u = mostOf(ledger.byPlace);
        return what == 0 ? u : ledger.byPlace[u];
    }

    public int rest(int most) {
        if (!within(most, 0, MOST_MOVES)) {
            return BAD;
        }
        int moves = 0;
        // Every round but the last has a move in it.
        for (int round = 0; round <= MOST_MOVES; round++) {
            int ahead = moves;
            for (int p = 0; p < folk.many && moves < most; p++) {
                if (movesAway(p)) {
                    moves++;
                }
            }
            if (moves == ahead) {
                return moves;
            }
        }
        return moves;
    }

    // ---- half heard

    public long chance(int p, int q) {
        if (!folk.has(p) || !vows.has(q)) {
            return NO;
        }
        ledger.listen(texts.law);
        return ledger.chanceOf(p, q);
    }

    public long lost(int q) {
        if (!vows.has(q)) {
            return NO;
        }
        ledger.listen(texts.law);
        long left = WHOLE;
        for (int p = 0; p < folk.many; p++) {
            if (folk.canDo(p, vows.work[q]) && folk.isBound(p)) {
                left = left * (WHOLE - ledger.chanceOf(p, q)) / WHOLE;
            }
        }
        return left;
    }

    // ---- other texts, witnesses

    public int laws(int what) {
        if (!within(what, 0, 2)) {
            return BAD;
        }
        int all = (1 << vows.many) - 1;
        int bits = 0;
        int first = NONE;
        int leading = 0;
        for (int t = 0; t < texts.many; t++) {
            ledger.reckon(t);
            int outcome = ledger.outcome(what);
            if (what == 0 && outcome == all) {
                bits |= 1 << t;
            }
            if (first == NONE || (what == 2 ? outcome < leading : outcome > leading)) {
                first = t;
                leading = outcome;
            }
        }
        return what == 0 ? bits : first;
    }

    public int witness(int s) {
        int refusal = witnessRefusal(s);
        if (refusal != 0) {
            return refusal;
        }
        ledger.listen(texts.law);
        return firstHeardByOthers(s);
    }

    public int alibi(int p, int s) {
        if (!folk.has(p)) {
            return NO_SUCH;
        }
        int refusal = witnessRefusal(s);
        if (refusal != 0) {
            return refusal;
        }
        ledger.listen(texts.law);
        int was = folk.moved[p];
        int bits = 0;
        for (int u = 0; u < PLACES; u++) {
            folk.moved[p] = u;
            ledger.listenBy(p);
            if (firstHeardByOthers(s) == NONE) {
                bits |= 1 << u;
            }
        }
        folk.moved[p] = was;
        return bits;
    }

    // ---- by lot

    public int drawn(int seed, int what) {
        if (!within(seed, 0, LAST_SEED) || !within(what, 0, 2)) {
            return BAD;
        }
        ledger.listen(texts.law);
        ledger.draw(seed);
        return ledger.outcome(what);
    }

    public long odds(int q, int seed, int many, int part) {
        if (!vows.has(q) || !within(seed, 0, LAST_SEED) || !within(many, 1, MOST_SEEDS)
            || !within(part, 0, 1)) {
            return NO;
        }
        ledger.listen(texts.law);
        int times = 0;
        for (int i = 0; i < many; i++) {
            // No seed is above the last one: each further one is that one again.
            ledger.draw(Math.min(seed + i, LAST_SEED));
            if (ledger.keeps(q)) {
                times++;
            }
        }
        int common = commonDivisor(times, many);
        return part == 0 ? times / common : many / common;
    }

    public int image() {
        kept.keep(town, folk, sayings, texts);
        return sayings.many;
    }

    public int back() {
        if (!kept.isThere) {
            return STATE;
        }
        kept.giveBack(town, folk, sayings, texts);
        return sayings.many;
    }

    // ---- the host

    public int sheet(int s, int sort, int n) {
        if (!within(s, 0, SHEETS - 1) || !within(sort, MISSING, INTS)) {
            return BAD;
        }
        if (sort != MISSING && n > CELLS) {
            return BAD;
        }
        if (sort != MISSING && n < 0) {
            return BELOW;
        }
        sheets.become(s, sort, sort == MISSING ? 0 : n);
        return 1;
    }

    public int cell(int s, int i, int v) {
        if (!within(s, 0, SHEETS - 1)) {
            return BAD;
        }
        if (sheets.isMissing(s)) {
            return NOTHING;
        }
        if (!within(i, 0, sheets.size[s] - 1)) {
            return OUTSIDE;
        }
        sheets.set(s, i, v);
        return 1;
    }

    public int copy(int s, int i, int other, int j, int n) {
        if (!within(s, 0, SHEETS - 1) || !within(other, 0, SHEETS - 1)) {
            return BAD;
        }
        if (sheets.isMissing(s) || sheets.isMissing(other)) {
            return NOTHING;
        }
        if (sheets.sort[s] != sheets.sort[other]) {
            return UNLIKE;
        }
        if (n < 0 || !within(i, 0, sheets.size[s] - n) || !within(j, 0, sheets.size[other] - n)) {
            return OUTSIDE;
        }
        System.arraycopy(sheets.cells, s * CELLS + i, sheets.cells, other * CELLS + j, n);
        return n;
    }

    public int promisesBy(int s, int sort, int at, int n) {
        if (!within(s, 0, SHEETS - 1) || !within(sort, BYTES, INTS) || !within(n, 0, PROMISES)) {
            return BAD;
        }
        if (sheets.isMissing(s)) {
            return NOTHING;
        }
        if (sheets.sort[s] != sort) {
            return UNLIKE;
        }
        int came = 0;
        for (int k = 0; k < n; k++) {
            int ahead = PROMISE_CELLS * k;
            if (!within(at, 0, sheets.size[s] - PROMISE_CELLS - ahead)) {
                return OUTSIDE;
            }
            int i = s * CELLS + at + ahead;
            int[] row = sheets.cells;
            if (promise(row[i], row[i + 1], row[i + 2], row[i + 3]) >= 0) {
                came++;
            }
        }
        return came;
    }

    public int taken(int i, int kind) {
        if (!within(kind, 0, KINDS)) {
            return BAD;
        }
        if (!within(i, 0, PROMISES + PEOPLE - 1)) {
            return OUTSIDE;
        }
        if (i < PROMISES) {
            return !vows.has(i) ? NOTHING : kind == KINDS ? vows.needs[i] : UNLIKE;
        }
        int p = i - PROMISES;
        if (!folk.has(p)) {
            return NOTHING;
        }
        return kind < KINDS && folk.isA(p, kind) ? p : UNLIKE;
    }

    // ---- what several calls need

    private static boolean within(int v, int low, int high) {
        return low <= v && v <= high;
    }

    private static boolean isByte(int v) {
        return within(v, 0, 255);
    }

    private static boolean isHow(int how) {
        return within(how, 0, HOWS - 1) && how / 10 % 10 < MINUTES && how % 10 > 0;
    }

    private static int bounded(int v, int most) {
        return Math.max(0, Math.min(v, most));
    }

    private static int leastOf(int[] row) {
        int first = 0;
        for (int i = 1; i < row.length; i++) {
            if (row[i] < row[first]) {
                first = i;
            }
        }
        return first;
    }

    private static int mostOf(int[] row) {
        int first = 0;
        for (int i = 1; i < row.length; i++) {
            if (row[i] > row[first]) {
                first = i;
            }
        }
        return first;
    }

    // At least 1, also if a is 0.
    private static int commonDivisor(int a, int b) {
        int larger = b;
        int lesser = a;
        for (int i = 0; i < 32 && lesser > 0; i++) {
            int over = larger % lesser;
            larger = lesser;
            lesser = over;
        }
        return Math.max(1, larger);
    }

    private int wayTo(int s) {
        return town.between(sayings.place[s - 1], sayings.place[s]);
    }

    private boolean movesAway(int p) {
        ledger.listen(texts.law);
        ledger.tryPlaces(p);
        int u = leastOf(ledger.byPlace);
        if (ledger.byPlace[u] >= ledger.byPlace[folk.startOf(p)]) {
            return false;
        }
        folk.moved[p] = u;
        return true;
    }

    // 0, if a SHEET can tell who heard each SAYING.
    private int witnessRefusal(int s) {
        if (!within(s, 0, SHEETS - 1)) {
            return BAD;
        }
        if (sheets.isMissing(s)) {
            return NOTHING;
        }
        return sheets.size[s] == sayings.many ? 0 : BAD;
    }

    private int firstHeardByOthers(int s) {
        for (int i = 0; i < sayings.many; i++) {
            if (ledger.clear[i] != sheets.bitsAt(s, i)) {
                return i;
            }
        }
        return NONE;
    }

    /** PLACES, MINUTES and STRIDE. */
    private static final class Town {
        final int[] apart = new int[PLACES * PLACES];
        final int[] noise = new int[MINUTES];
        int step = 2;

        Town() {
            for (int u = 0; u < PLACES; u++) {
                for (int v = 0; v < PLACES; v++) {
                    apart[u * PLACES + v] = Math.abs(u - v);
                }
            }
        }

        int between(int u, int v) {
            return apart[u * PLACES + v];
        }

        void setBetween(int u, int v, int d) {
            apart[u * PLACES + v] = d;
            apart[v * PLACES + u] = d;
        }

        void become(Town other) {
            System.arraycopy(other.apart, 0, apart, 0, PLACES * PLACES);
            System.arraycopy(other.noise, 0, noise, 0, MINUTES);
            step = other.step;
        }
    }

    /** PEOPLE. */
    private static final class Folk {
        final int[] kind = new int[PEOPLE];
        final int[] home = new int[PEOPLE];
        final int[] ear = new int[PEOPLE];
        final int[] more = new int[PEOPLE];
        final int[] works = new int[PEOPLE];
        final int[] pains = new int[PEOPLE];
        final int[] room = new int[PEOPLE];
        final int[] moved = new int[PEOPLE];
        int many = 0;

        boolean has(int p) {
            return within(p, 0, many - 1);
        }

        int add(int newKind, int what, int newWorks, int burden) {
            int p = many;
            kind[p] = newKind;
            home[p] = what / 100;
            ear[p] = what / 10 % 10;
            more[p] = what % 10;
            works[p] = newWorks;
            pains[p] = burden / 100;
            room[p] = burden % 100;
            moved[p] = NONE;
            many = p + 1;
            return p;
        }

        boolean isA(int p, int wanted) {
            int k = kind[p];
            for (int i = 0; i < KINDS && k >= 0; i++) {
                if (k == wanted) {
                    return true;
                }
                k = KIND_ABOVE[k];
            }
            return false;
        }

        int startOf(int p) {
            return moved[p] == NONE ? home[p] : moved[p];
        }

        int placeOf(int p, int minute) {
            int start = startOf(p);
            if (!isA(p, WALKER)) {
                return start;
            }
            if (kind[p] == BUYER && (minute == 2 || minute == 3)) {
                return 0;
            }
            return (start + minute / Math.max(1, more[p])) % PLACES;
        }

        boolean isBound(int p) {
            return kind[p] != CHILD;
        }

        boolean canDo(int p, int work) {
            return (works[p] >> work & 1) == 1;
        }

        int hearingOf(int p, int lawful, int volume) {
            if (kind[p] == SHY && volume > more[p]) {
                return 0;
            }
            return kind[p] == DEAF ? lawful / 2 : lawful;
        }
    }

    /** PROMISES. */
    private static final class Vows {
        final int[] work = new int[PROMISES];
        final int[] needs = new int[PROMISES];
        final int[] worth = new int[PROMISES];
        final int[] contrary = new int[PROMISES];
        int many = 0;

        boolean has(int q) {
            return within(q, 0, many - 1);
        }

        int add(int newWork, int newNeeds, int newWorth, int against) {
            int q = many;
            work[q] = newWork;
            needs[q] = newNeeds;
            worth[q] = newWorth;
            contrary[q] = against;
            many = q + 1;
            return q;
        }
    }

    /** SAYINGS; rows from how many there are on may hold anything. */
    private static final class Sayings {
        final int[] vow = new int[ROWS];
        final int[] place = new int[ROWS];
        final int[] minute = new int[ROWS];
        final int[] volume = new int[ROWS];
        int many = 0;

        boolean has(int s) {
            return within(s, 0, many - 1);
        }

        void put(int s, int q, int how) {
            vow[s] = q;
            place[s] = how / 100;
            minute[s] = how / 10 % 10;
            volume[s] = how % 10;
        }

        void become(Sayings other) {
            System.arraycopy(other.vow, 0, vow, 0, ROWS);
            System.arraycopy(other.place, 0, place, 0, ROWS);
            System.arraycopy(other.minute, 0, minute, 0, ROWS);
            System.arraycopy(other.volume, 0, volume, 0, ROWS);
            many = other.many;
        }
    }

    /** THE TAPE, and what reads it as a TEXT. */
    private static final class Reader {
        final int[] tape = new int[TAPE];
        int size = 0;
        // The TOKENS: the last one is END, or BROKEN where a byte or TOKEN can stand nowhere.
        private final int[] sort = new int[TAPE + 1];
        private final int[] place = new int[TAPE + 1];
        private final int[] value = new int[TAPE + 1];
        private int tokens = 0;
        private int next = 0;
        // The steps of the three E, as they are done; each starts where the last one ends.
        final int[] steps = new int[TAPE];
        final int[] starts = new int[PARTS + 1];
        private int used = 0;

        void put(int b) {
            if (size < TAPE) {
                tape[size] = b;
                size++;
            }
        }

        void clear() {
            size = 0;
        }

        int fault() {
            return place[next];
        }

        boolean reads() {
            cut();
            next = 0;
            used = 0;
            for (int part = 0; part < PARTS; part++) {
                starts[part] = used;
                if (!passes(HEARD_KEY + part) || !level(OR_LEVEL, 0) || !passes(';')) {
                    return false;
                }
            }
            starts[PARTS] = used;
            return sort[next] == END;
        }

        private void cut() {
            tokens = 0;
            int at = 0;
            for (int i = 0; i < TAPE && at < size; i++) {
                int b = tape[at];
                int end = at + 1;
                if (isLetter(b)) {
                    end = lettersEnd(at);
                    putWord(at, end);
                } else if (isDigit(b)) {
                    end = digitsEnd(at);
                    putNumber(at, end);
                } else if (b != ' ' && b != '\n') {
                    putToken(isSign(b) ? b : BROKEN, at, 0);
                }
                at = end;
            }
            putToken(END, size, 0);
        }

        private void putToken(int newSort, int at, int newValue) {
            if (tokens <= TAPE) {
                sort[tokens] = newSort;
                place[tokens] = at;
                value[tokens] = newValue;
                tokens++;
            }
        }

        private void putNumber(int at, int end) {
            if (end - at > DIGITS) {
                putToken(BROKEN, at, 0);
                return;
            }
            int number = 0;
            for (int i = at; i < end; i++) {
                number = number * 10 + tape[i] - '0';
            }
            putToken(NUMBER, at, number);
        }

        private void putWord(int at, int end) {
            int name = nameAt(at, end);
            if (name != NONE) {
                putToken(NAME, at, name);
            } else {
                putToken(keyAt(at, end), at, 0);
            }
        }

        private int nameAt(int at, int end) {
            if (spells("loud", at, end)) return LOUD;
            if (spells("far", at, end)) return FAR;
            if (spells("ear", at, end)) return EAR;
            if (spells("need", at, end)) return NEED;
            if (spells("many", at, end)) return MANY;
            if (spells("base", at, end)) return BASE;
            return NONE;
        }

        private int keyAt(int at, int end) {
            if (spells("heard", at, end)) return HEARD_KEY;
            if (spells("share", at, end)) return SHARE_KEY;
            if (spells("pain", at, end)) return PAIN_KEY;
            if (spells("or", at, end)) return OR_KEY;
            if (spells("and", at, end)) return AND_KEY;
            if (spells("not", at, end)) return NOT_KEY;
            return BROKEN;
        }

        private boolean spells(String word, int at, int end) {
            if (word.length() != end - at) {
                return false;
            }
            for (int i = at; i < end; i++) {
                if (word.charAt(i - at) != tape[i]) {
                    return false;
                }
            }
            return true;
        }

        private int lettersEnd(int at) {
            int end = at;
            while (end < size && isLetter(tape[end])) {
                end++;
            }
            return end;
        }

        private int digitsEnd(int at) {
            int end = at;
            while (end < size && isDigit(tape[end])) {
                end++;
            }
            return end;
        }

        private static boolean isLetter(int b) {
            return within(b, 'a', 'z');
        }

        private static boolean isDigit(int b) {
            return within(b, '0', '9');
        }

        private static boolean isSign(int b) {
            switch (b) {
                case '(': case ')': case ';': case '+': case '-': case '*': case '<': case '=':
                    return true;
                default:
                    return false;
            }
        }

        private boolean passes(int wanted) {
            if (sort[next] != wanted) {
                return false;
            }
            next++;
            return true;
        }

        private void step(int what) {
            if (used < TAPE) {
                steps[used] = what;
                used++;
            }
        }

        private static boolean joins(int level, int sign) {
            switch (level) {
                case OR_LEVEL: return sign == OR_KEY;
                case AND_LEVEL: return sign == AND_KEY;
                case SUM_LEVEL: return sign == '+' || sign == '-';
                case TERM_LEVEL: return sign == '*';
                default: return false;
            }
        }

        // An E, AND, SUM or TERM is parts of the next level with their signs between;
        // so many of ( , not and - are open. False, if the next TOKEN can't stand there.
        private boolean level(int level, int open) {
            if (level == NOT_LEVEL) {
                return negation(open);
            }
            if (level >= ONE_LEVEL) {
                return one(open);
            }
            if (!level(level + 1, open)) {
                return false;
            }
            for (int i = 0; i < TAPE && joins(level, sort[next]); i++) {
                int sign = sort[next];
                next++;
                if (!level(level + 1, open)) {
                    return false;
                }
                step(DO_STEP + sign);
            }
            return true;
        }

        private boolean negation(int open) {
            if (sort[next] == NOT_KEY) {
                return opens(NOT_KEY, open) && negation(open + 1) && did(NOT_KEY);
            }
            if (!level(SUM_LEVEL, open)) {
                return false;
            }
            int sign = sort[next];
            if (sign != '<' && sign != '=') {
                return true;
            }
            next++;
            return level(SUM_LEVEL, open) && did(sign);
        }

        private boolean one(int open) {
            int found = sort[next];
            if (found == NUMBER || found == NAME) {
                step(found == NUMBER ? value[next] : NAME_STEP + value[next]);
                next++;
                return true;
            }
            if (found == '-') {
                return opens('-', open) && one(open + 1) && did(NEGATE);
            }
            return opens('(', open) && level(OR_LEVEL, open + 1) && passes(')');
        }

        private boolean opens(int wanted, int open) {
            return open < OPEN && passes(wanted);
        }

        private boolean did(int what) {
            step(DO_STEP + what);
            return true;
        }
    }

    /** The TEXTS that were read, and which is THE LAW. */
    private static final class Texts {
        private final int[] steps = new int[TEXTS * TAPE];
        private final int[] starts = new int[TEXTS * (PARTS + 1)];
        int many = 0;
        int law = 0;
        // What the NAMES stand for while an E is reckoned.
        final int[] given = new int[NAMES];
        // One place more than there can be steps: what works on one number reads above it, too.
        private final int[] stack = new int[TAPE + 1];

        int add(Reader reader) {
            int t = many;
            System.arraycopy(reader.steps, 0, steps, t * TAPE, TAPE);
            System.arraycopy(reader.starts, 0, starts, t * (PARTS + 1), PARTS + 1);
            many = t + 1;
            return t;
        }

        void giveNothing() {
            for (int i = 0; i < NAMES; i++) {
                given[i] = 0;
            }
        }

        int value(int t, int part) {
            int from = t * TAPE + starts[t * (PARTS + 1) + part];
            int end = t * TAPE + starts[t * (PARTS + 1) + part + 1];
            int top = 0;
            for (int i = from; i < end; i++) {
                int step = steps[i];
                if (step < DO_STEP) {
                    stack[top] = step < NAME_STEP ? step : given[step - NAME_STEP];
                    top++;
                } else {
                    boolean alone = step == DO_STEP + NEGATE || step == DO_STEP + NOT_KEY;
                    top = Math.max(1, alone ? top : top - 1);
                    stack[top - 1] = joined(step - DO_STEP, stack[top - 1], stack[top]);
                }
            }
            return stack[0];
        }

        // - and not ahead of a ONE or NOT work on the left number alone.
        private static int joined(int sign, int left, int right) {
            switch (sign) {
                case NEGATE: return -left;
                case NOT_KEY: return left == 0 ? 1 : 0;
                case '+': return left + right;
                case '-': return left - right;
                case '*': return left * right;
                case '<': return left < right ? 1 : 0;
                case '=': return left == right ? 1 : 0;
                case AND_KEY: return left != 0 && right != 0 ? 1 : 0;
                default: return left != 0 || right != 0 ? 1 : 0;
            }
        }
    }

    /** Who hears, owes, keeps what; reckoned anew for each call, in rows made once. */
    private static final class Ledger {
        private final Town town;
        private final Folk folk;
        private final Vows vows;
        private final Sayings sayings;
        private final Texts texts;
        private int law = 0;
        // By SAYING (one row more: what is said once more), and then by one.
        final int[] hearing = new int[ROWS * PEOPLE];
        final int[] clear = new int[ROWS];
        private final int[] due = new int[ROWS * PEOPLE];
        // By one, and then by PROMISE.
        final int[] owed = new int[PEOPLE * PROMISES];
        final int[] total = new int[PEOPLE];
        final int[] struck = new int[PEOPLE];
        final int[] beyond = new int[PEOPLE];
        final int[] even = new int[PEOPLE];
        final int[] byPlace = new int[PLACES];

        Ledger(Town town, Folk folk, Vows vows, Sayings sayings, Texts texts) {
            this.town = town;
            this.folk = folk;
            this.vows = vows;
            this.sayings = sayings;
            this.texts = texts;
        }

        void reckon(int text) {
            listen(text);
            bindAll();
        }

        void listen(int text) {
            law = text;
            for (int s = 0; s < sayings.many; s++) {
                listenTo(s);
            }
        }

        void listenBy(int p) {
            for (int s = 0; s < sayings.many; s++) {
                listenOne(s, p);
            }
        }

        private void listenTo(int s) {
            clear[s] = 0;
            for (int p = 0; p < folk.many; p++) {
                listenOne(s, p);
            }
        }

        private void listenOne(int s, int p) {
            int minute = sayings.minute[s];
            texts.giveNothing();
            texts.given[LOUD] = sayings.volume[s];
            texts.given[FAR] = town.between(folk.placeOf(p, minute), sayings.place[s]);
            texts.given[EAR] = folk.ear[p];
            texts.given[BASE] = town.noise[minute];
            int lawful = bounded(texts.value(law, HEARD_PART), 100);
            int how = folk.hearingOf(p, lawful, sayings.volume[s]);
            hearing[s * PEOPLE + p] = how;
            setClear(s, p, how >= CLEARLY);
        }

        private void setClear(int s, int p, boolean is) {
            clear[s] = is ? clear[s] | 1 << p : clear[s] & ~(1 << p);
        }

        private void bindAll() {
            for (int s = 0; s < sayings.many; s++) {
                bindBy(s);
            }
            settle(sayings.many, NONE);
        }

        private void bindBy(int s) {
            for (int p = 0; p < folk.many; p++) {
                due[s * PEOPLE + p] = shareOf(s, p);
            }
        }

        private int shareOf(int s, int p) {
            if ((clear[s] >> p & 1) == 0 || !folk.isBound(p)) {
                return 0;
            }
            int q = sayings.vow[s];
            texts.giveNothing();
            texts.given[LOUD] = sayings.volume[s];
            texts.given[NEED] = vows.needs[q];
            texts.given[MANY] = Integer.bitCount(clear[s]);
            texts.given[BASE] = folk.canDo(p, vows.work[q]) ? 1 : 0;
            return bounded(texts.value(law, SHARE_PART), 99);
        }

        // By so many rows of SAYINGS without the one that is left out.
        void settle(int rows, int without) {
            for (int p = 0; p < folk.many; p++) {
                settleOne(p, rows, without);
            }
        }

        private void settleOne(int p, int rows, int without) {
            for (int q = 0; q < PROMISES; q++) {
                owed[p * PROMISES + q] = 0;
            }
            for (int s = 0; s < rows; s++) {
                int i = p * PROMISES + sayings.vow[s];
                if (s != without) {
                    owed[i] = Math.max(owed[i], due[s * PEOPLE + p]);
                }
            }
            strikeOut(p);
            cutToRoom(p);
        }

        private void strikeOut(int p) {
            struck[p] = 0;
            for (int q = 0; q < vows.many; q++) {
                if (vows.contrary[q] != NONE) {
                    int one = p * PROMISES + q;
                    int other = p * PROMISES + vows.contrary[q];
                    int lesser = Math.min(owed[one], owed[other]);
                    owed[one] -= lesser;
                    owed[other] -= lesser;
                    struck[p] += lesser;
                }
            }
        }

        private void cutToRoom(int p) {
            int left = folk.room[p];
            beyond[p] = 0;
            for (int q = 0; q < vows.many; q++) {
                int i = p * PROMISES + q;
                int more = Math.max(0, owed[i] - left);
                owed[i] -= more;
                left -= owed[i];
                beyond[p] += more;
            }
            total[p] = folk.room[p] - left;
        }

        int doneOf(int q) {
            int all = 0;
            for (int p = 0; p < folk.many; p++) {
                if (folk.canDo(p, vows.work[q])) {
                    all += owed[p * PROMISES + q];
                }
            }
            return Math.min(all, vows.needs[q]);
        }

        boolean keeps(int q) {
            return doneOf(q) == vows.needs[q];
        }

        int keptBits() {
            int bits = 0;
            for (int q = 0; q < vows.many; q++) {
                if (keeps(q)) {
                    bits |= 1 << q;
                }
            }
            return bits;
        }

        private int worthKept() {
            int all = 0;
            for (int q = 0; q < vows.many; q++) {
                if (keeps(q)) {
                    all += vows.worth[q];
                }
            }
            return all;
        }

        int painOf(int p) {
            texts.giveNothing();
            texts.given[EAR] = folk.ear[p];
            texts.given[NEED] = total[p];
            texts.given[BASE] = folk.pains[p];
            return bounded(texts.value(law, PAIN_PART), 9999);
        }

        int painOfAll() {
            int all = 0;
            for (int p = 0; p < folk.many; p++) {
                all += painOf(p);
            }
            return all;
        }

        int outcome(int what) {
            return what == 0 ? keptBits() : what == 1 ? worthKept() : painOfAll();
        }

        int fullBits() {
            int bits = 0;
            for (int p = 0; p < folk.many; p++) {
                if (total[p] == folk.room[p]) {
                    bits |= 1 << p;
                }
            }
            return bits;
        }

        // After reckon(): as if it were said behind all others.
        void sayMore(int q, int how) {
            int s = sayings.many;
            sayings.put(s, q, how);
            listenTo(s);
            bindBy(s);
            settle(s + 1, NONE);
        }

        // After listen(): LOTS tell who hears CLEARLY.
        void draw(int seed) {
            long lot = (seed + 1) * LOT_FACTOR % LOT_MODULUS;
            for (int s = 0; s < sayings.many; s++) {
                for (int p = 0; p < folk.many; p++) {
                    setClear(s, p, lot % 100 < hearing[s * PEOPLE + p]);
                    lot = lot * LOT_FACTOR % LOT_MODULUS;
                }
            }
            bindAll();
        }

        // After listen(): how much one would owe in all by each PLACE to which one MOVED.
        void tryPlaces(int p) {
            int was = folk.moved[p];
            for (int u = 0; u < PLACES; u++) {
                folk.moved[p] = u;
                listenBy(p);
                for (int s = 0; s < sayings.many; s++) {
                    due[s * PEOPLE + p] = shareOf(s, p);
                }
                settleOne(p, sayings.many, NONE);
                byPlace[u] = total[p];
            }
            folk.moved[p] = was;
        }

        // After listen(): EVEN; false, if there isn't ROOM for all of it.
        boolean sharesOut(int q) {
            for (int p = 0; p < PEOPLE; p++) {
                even[p] = 0;
            }
            int among = evenBits(q);
            for (int i = 0; i < vows.needs[q]; i++) {
                int p = lightest(among);
                if (p == NONE) {
                    return false;
                }
                even[p]++;
            }
            return true;
        }

        private int evenBits(int q) {
            int bits = 0;
            for (int s = 0; s < sayings.many; s++) {
                if (sayings.vow[s] == q) {
                    bits |= clear[s];
                }
            }
            for (int p = 0; p < folk.many; p++) {
                if (!folk.isBound(p) || !folk.canDo(p, vows.work[q])) {
                    bits &= ~(1 << p);
                }
            }
            return bits;
        }

        private int lightest(int among) {
            int first = NONE;
            int least = 0;
            for (int p = 0; p < folk.many; p++) {
                int pain = folk.pains[p] * (even[p] + 1);
                boolean takes = (among >> p & 1) == 1 && even[p] < folk.room[p];
                if (takes && (first == NONE || pain < least)) {
                    first = p;
                    least = pain;
                }
            }
            return first;
        }

        // After listen(): how likely, in PARTS, one hears a PROMISE.
        long chanceOf(int p, int q) {
            long left = WHOLE;
            for (int s = 0; s < sayings.many; s++) {
                if (sayings.vow[s] == q) {
                    left = left * (100 - hearing[s * PEOPLE + p]) / 100;
                }
            }
            return WHOLE - left;
        }
    }

    /** AN IMAGE. */
    private static final class Image {
        private final Town town = new Town();
        private final Sayings sayings = new Sayings();
        private final int[] moved = new int[PEOPLE];
        private int people = 0;
        private int law = 0;
        boolean isThere = false;

        void keep(Town ofTown, Folk ofFolk, Sayings ofSayings, Texts ofTexts) {
            town.become(ofTown);
            sayings.become(ofSayings);
            people = ofFolk.many;
            System.arraycopy(ofFolk.moved, 0, moved, 0, people);
            law = ofTexts.law;
            isThere = true;
        }

        // PEOPLE who came since stay where they MOVED.
        void giveBack(Town toTown, Folk toFolk, Sayings toSayings, Texts toTexts) {
            toTown.become(town);
            toSayings.become(sayings);
            System.arraycopy(moved, 0, toFolk.moved, 0, people);
            toTexts.law = law;
        }
    }

    /** SHEETS, each a part of one row. */
    private static final class Sheets {
        final int[] sort = {MISSING, MISSING, MISSING, MISSING};
        final int[] size = new int[SHEETS];
        final int[] cells = new int[SHEETS * CELLS];

        boolean isMissing(int s) {
            return sort[s] == MISSING;
        }

        void become(int s, int newSort, int n) {
            sort[s] = newSort;
            size[s] = n;
            for (int i = 0; i < CELLS; i++) {
                cells[s * CELLS + i] = 0;
            }
        }

        void set(int s, int i, int v) {
            cells[s * CELLS + i] = sort[s] == BYTES ? (byte) v : sort[s] == SHORTS ? (short) v : v;
        }

        // A byte has no bits above its eight, also if it is below 0.
        int bitsAt(int s, int i) {
            int v = cells[s * CELLS + i];
            return sort[s] == BYTES ? v & 255 : v;
        }
    }
}
