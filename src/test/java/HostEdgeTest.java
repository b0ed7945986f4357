import java.math.BigInteger;

/** Promises 35 to 48, at their edges. */
public final class HostEdgeTest {
    private static final int BAD = -2, STATE = -3, NO_SUCH = -5;
    private static final int NOTHING = -11, OUTSIDE = -12, UNLIKE = -13, BELOW = -14;
    private static final long NO = -4611686018427387904L;
    private static final int MIN = Edge.MIN, MAX = Edge.MAX;

    public static void main(String[] args) {
        chances();
        chance();
        lost();
        lawsRanges();
        laws();
        witnessRefusals();
        witness();
        witnessOfNone();
        alibiRefusals();
        alibi();
        drawnRanges();
        drawn();
        lots();
        oddsRanges();
        odds();
        image();
        imageOfAll();
        imageOfRows();
        sheetRefusals();
        sheet();
        sheetAnew();
        cellRefusals();
        cells();
        copyRefusals();
        copy();
        copyWithin();
        promisesByRefusals();
        promisesBy();
        promisesByFull();
        taken();
        takenOfFull();
        Due.end();
    }

    private static void due(String call, long got, long want) {
        Due.due(call, got, want);
    }

    private static WhoeverHeard peopleAlone() {
        WhoeverHeard x = new WhoeverHeard();
        x.person(0, 0, 1, 199);
        return x;
    }

    private static WhoeverHeard promisesAlone() {
        WhoeverHeard x = new WhoeverHeard();
        x.promise(0, 1, 1, -1);
        x.say(0, 1);
        return x;
    }

    // ---- half heard

    private static void chances() {
        Edge.range("35: p", Edge::some, (x, p) -> x.chance(p, 0), 0, 2, NO);
        Edge.range("35: q", Edge::some, (x, q) -> x.chance(0, q), 0, 2, NO);
        Edge.range("36: q", Edge::some, (x, q) -> x.lost(q), 0, 2, NO);
        Edge.range("35: p of eight", Edge::full, (x, p) -> x.chance(p, 7), 0, 7, NO);
        Edge.range("35: q of eight", Edge::full, (x, q) -> x.chance(7, q), 0, 7, NO);
        Edge.range("36: q of eight", Edge::full, (x, q) -> x.lost(q), 0, 7, NO);
        Edge.none("35: nobody", HostEdgeTest::promisesAlone, (x, p) -> x.chance(p, 0), NO);
        Edge.none("35: no PROMISE", HostEdgeTest::peopleAlone, (x, q) -> x.chance(0, q), NO);
        Edge.none("36: no PROMISE", HostEdgeTest::peopleAlone, (x, q) -> x.lost(q), NO);
        for (Edge.Make make : new Edge.Make[] {Edge::some, Edge::full}) {
            Edge.asks("35: chance", make, x -> x.chance(1, 0));
            Edge.asks("36: lost", make, x -> x.lost(0));
        }
    }

    /** One of a KIND, who hears so well of so many SAYINGS of one PROMISE, LOUD 1. */
    private static WhoeverHeard hearing(int kind, int how, int sayings) {
        WhoeverHeard x = new WhoeverHeard();
        x.person(kind, 1, 1, 199);
        x.promise(0, 10, 3, -1);
        x.promise(0, 10, 4, -1);
        for (int s = 0; s < sayings; s++) x.say(0, 1);
        x.force(Due.read(x, "heard " + how + ";share need;pain need;"));
        return x;
    }

    private static void chance() {
        due("35: none said", hearing(0, 100, 0).chance(0, 0), 0);
        due("35: another one said", hearing(0, 100, 1).chance(0, 1), 0);
        due("35: HEARS 0", hearing(0, 0, 10).chance(0, 0), 0);
        due("35: HEARS 1", hearing(0, 1, 1).chance(0, 0), 10000);
        due("35: HEARS 99", hearing(0, 99, 1).chance(0, 0), 990000);
        due("35: HEARS 100", hearing(0, 100, 1).chance(0, 0), 1000000);
        due("35: HEARS 100 at most", hearing(0, 101, 1).chance(0, 0), 1000000);
        due("35: ten times 100", hearing(0, 100, 10).chance(0, 0), 1000000);
        // 500000, 250000, 125000, 62500, 31250, 15625, 7812 (.5), 3906, 1953, 976 (.5).
        int[] left = {500000, 250000, 125000, 62500, 31250, 15625, 7812, 3906, 1953, 976};
        for (int n = 1; n <= 10; n++) due("35: cut, one by one", hearing(0, 50, n).chance(0, 0), 1000000 - left[n - 1]);
        // 10000, 100, 1, 0 (.01): what is left is nothing.
        int[] few = {10000, 100, 1, 0, 0};
        for (int n = 1; n <= 5; n++) due("35: till nothing is left", hearing(0, 99, n).chance(0, 0), 1000000 - few[n - 1]);
        due("35: DEAF, of 99", hearing(2, 99, 1).chance(0, 0), 490000);
        due("35: a CHILD, too", hearing(4, 50, 1).chance(0, 0), 500000);
        WhoeverHeard x = new WhoeverHeard();
        x.person(0, 0, 0, 100);
        x.promise(0, 10, 3, -1);
        int[] louds = {3, 1, 2};
        for (int loud : louds) x.say(0, loud);
        x.force(Due.read(x, "heard 33*loud;share 0;pain 0;"));
        // 10000, 6700, 2278; in other turns 227800 of the first two, too.
        due("35: one who can't, without ROOM", x.chance(0, 0), 1000000 - 2278);
    }

    private static WhoeverHeard crowd(int people, int kind, int works, int how) {
        WhoeverHeard x = new WhoeverHeard();
        for (int p = 0; p < people; p++) x.person(kind, 1, works, 100);
        x.promise(7, 10, 3, -1);
        x.say(0, 1);
        x.force(Due.read(x, "heard " + how + ";share need;pain need;"));
        return x;
    }

    private static void lost() {
        due("36: nobody", promisesAlone().lost(0), 1000000);
        int[] left = {1000000, 500000, 250000, 125000, 62500, 31250, 15625, 7812, 3906};
        for (int n = 0; n <= 8; n++) due("36: cut, one by one", crowd(n, 0, 128, 50).lost(0), left[n]);
        due("36: nobody can", crowd(8, 0, 127, 100).lost(0), 1000000);
        due("36: nobody is BOUND", crowd(8, 4, 255, 100).lost(0), 1000000);
        due("36: nobody hears", crowd(8, 0, 255, 0).lost(0), 1000000);
        due("36: one surely hears", crowd(1, 0, 255, 100).lost(0), 0);
        due("36: a SHY one", crowd(1, 5, 255, 100).lost(0), 0);
        due("36: DEAF", crowd(1, 2, 255, 101).lost(0), 500000);
        due("36: nothing said", hearing(0, 100, 0).lost(0), 1000000);
        due("36: another one said", hearing(0, 100, 1).lost(1), 1000000);
        // 10000, 100, 1, 0.
        int[] few = {10000, 100, 1, 0};
        for (int n = 1; n <= 4; n++) due("36: till nothing is left", crowd(n, 0, 255, 99).lost(0), few[n - 1]);
    }

    // ---- other texts, witnesses

    private static void lawsRanges() {
        for (Edge.Make make : new Edge.Make[] {WhoeverHeard::new, Edge::some, Edge::full}) {
            Edge.range("37: what", make, (x, what) -> x.laws(what), 0, 2, BAD);
            for (int what = 0; what <= 2; what++) {
                int w = what;
                Edge.asks("37: laws", make, x -> x.laws(w));
            }
        }
    }

    private static void laws() {
        WhoeverHeard x = new WhoeverHeard();
        for (int t = 0; t < 6; t++) {
            due("37: no PROMISES: all are KEPT by all", x.laws(0), (1 << t + 1) - 1);
            due("37: like ones: the first", x.laws(1), 0);
            due("37: like ones: the first", x.laws(2), 0);
            Due.read(x, "heard 50;share need;pain " + t + ";");
        }
        x.promise(0, 10, 0, -1);
        due("37: nobody: not KEPT by any", x.laws(0), 0);
        due("37: no WORTH: the first", x.laws(1), 0);
        x = new WhoeverHeard();
        x.person(0, 0, 1, 199);
        x.promise(0, 10, 0, -1);
        x.promise(0, 5, 7, -1);
        x.say(0, 1);
        x.say(1, 1);
        for (int t = 1; t < 6; t++) {
            Due.read(x, "heard 4" + (t == 5 ? "9+1" : "9") + ";share need;pain " + (t == 5 ? "0" : "1") + ";");
        }
        // TEXT 0 and the last one alone; pain 15, 1, 1, 1, 1, 0.
        due("37: the first and the last", x.laws(0), 33);
        due("37: most WORTH, of like ones the first", x.laws(1), 0);
        due("37: least pain is the last one's", x.laws(2), 5);
        x.move(0, 5);
        due("37: the last alone", x.laws(0), 32);
        due("37: most WORTH is the last one's", x.laws(1), 5);
        due("37: least pain: TEXT 0, of nothing owed", x.laws(2), 0);
        x.promise(1, 1, 0, -1);
        due("37: not all PROMISES", x.laws(0), 0);
        due("37: but most WORTH", x.laws(1), 5);
    }

    private static WhoeverHeard sized(int sayings, int sort, int n) {
        WhoeverHeard x = new WhoeverHeard();
        for (int p = 0; p < 8; p++) x.person(0, 0, 1, 199);
        x.promise(0, 1, 1, -1);
        for (int s = 0; s < sayings; s++) x.say(0, 1);
        x.sheet(2, sort, n);
        return x;
    }

    private static void witnessRefusals() {
        Edge.range("38: SHEET", Edge::some, (x, s) -> x.witness(s), 0, 3, BAD);
        Edge.range("38: SHEET of none", WhoeverHeard::new, (x, s) -> x.witness(s), 0, 3, BAD);
        Edge.still("38: missing", Edge::some, x -> x.witness(3), NOTHING);
        for (int s = 0; s < 4; s++) {
            int sheet = s;
            Edge.still("38: missing", WhoeverHeard::new, x -> x.witness(sheet), NOTHING);
            Edge.still("38: 40 aren't 10", Edge::full, x -> x.witness(sheet), BAD);
        }
        for (int sayings = 0; sayings <= 10; sayings++) {
            for (int sort = 0; sort < 3; sort++) {
                due("38: one more", sized(sayings, sort, sayings + 1).witness(2), BAD);
                due("39: one more", sized(sayings, sort, sayings + 1).alibi(0, 2), BAD);
                if (sayings == 0) continue;
                due("38: one less", sized(sayings, sort, sayings - 1).witness(2), BAD);
                due("39: one less", sized(sayings, sort, sayings - 1).alibi(0, 2), BAD);
                due("38: as many", sized(sayings, sort, sayings).witness(2), 0);
                due("39: as many", sized(sayings, sort, sayings).alibi(0, 2), 0);
            }
        }
        for (Edge.Make make : new Edge.Make[] {Edge::some, Edge::full}) {
            Edge.asks("38: witness", make, x -> x.witness(0));
            Edge.asks("39: alibi", make, x -> x.alibi(1, 0));
        }
    }

    private static void witness() {
        for (int sort = 0; sort < 3; sort++) {
            WhoeverHeard x = sized(10, sort, 10);
            for (int s = 0; s < 10; s++) {
                due("38: the first one that others hear", x.witness(2), s);
                x.cell(2, s, 255);
            }
            due("38: none", x.witness(2), -1);
            x.move(7, 5);
            due("38: not the last of PEOPLE", x.witness(2), 0);
            for (int s = 0; s < 10; s++) x.cell(2, s, 127);
            due("38: none", x.witness(2), -1);
            x.cell(2, 9, 63);
            due("38: the last SAYING", x.witness(2), 9);
            x.unsay();
            due("38: its size", x.witness(2), BAD);
            x.say(0, 501);
            due("38: another last SAYING", x.witness(2), 9);
            x.cell(2, 9, 128);
            due("38: the last of PEOPLE alone", x.witness(2), -1);
        }
    }

    private static void witnessOfNone() {
        WhoeverHeard x = new WhoeverHeard();
        for (int sort = 0; sort < 3; sort++) {
            x.sheet(0, sort, 0);
            due("38: none of none", x.witness(0), -1);
            due("39: nobody", x.alibi(0, 0), NO_SUCH);
        }
        x = promisesAlone();
        x.sheet(0, 0, 1);
        due("38: nobody is told, nobody hears", x.witness(0), -1);
    }

    private static void alibiRefusals() {
        Edge.range("39: p", Edge::some, (x, p) -> x.alibi(p, 0), 0, 2, NO_SUCH);
        Edge.range("39: p of eight", Edge::full, (x, p) -> x.alibi(p, 0), 0, 7, NO_SUCH);
        Edge.range("39: SHEET", Edge::some, (x, s) -> x.alibi(0, s), 0, 3, BAD);
        Edge.none("39: nobody", WhoeverHeard::new, (x, p) -> x.alibi(p, 0), NO_SUCH);
        Edge.still("39: missing", Edge::some, x -> x.alibi(0, 3), NOTHING);
        Edge.still("39: p ahead of SHEET", Edge::some, x -> x.alibi(3, 4), NO_SUCH);
        Edge.still("39: p ahead of a missing one", Edge::some, x -> x.alibi(-1, 3), NO_SUCH);
        Edge.still("39: p ahead of its size", Edge::some, x -> x.alibi(3, 1), NO_SUCH);
        Edge.still("39: its size", Edge::some, x -> x.alibi(0, 1), BAD);
        Edge.still("39: SHEET below", Edge::some, x -> x.alibi(0, -1), BAD);
    }

    private static void alibi() {
        WhoeverHeard x = peopleAlone();
        x.sheet(3, 2, 0);
        due("39: no SAYINGS: all PLACES", x.alibi(0, 3), 63);
        for (int u = 0; u < 6; u++) {
            x = new WhoeverHeard();
            x.person(0, 100 * (5 - u), 1, 199);
            x.promise(0, 1, 1, -1);
            x.say(0, 100 * u + 1);
            x.sheet(3, u % 3, 1);
            due("39: all but one", x.alibi(0, 3), 63 & ~(1 << u));
            x.cell(3, 0, 1);
            due("39: one alone", x.alibi(0, 3), 1 << u);
            x.person(0, 100 * u, 1, 199);
            due("39: by another one nowhere", x.alibi(0, 3), 0);
            x.cell(3, 0, 3);
            due("39: one alone, with another", x.alibi(0, 3), 1 << u);
            due("39: nobody MOVED", x.move(0, -1), -1);
            x.say(0, 100 * u + 1);
            due("39: its size", x.alibi(0, 3), BAD);
        }
    }

    // ---- by lot

    private static void drawnRanges() {
        for (Edge.Make make : new Edge.Make[] {WhoeverHeard::new, Edge::some, Edge::full}) {
            Edge.range("40: seed", make, (x, seed) -> x.drawn(seed, 0), 0, 99999, BAD);
            Edge.range("40: what", make, (x, what) -> x.drawn(99999, what), 0, 2, BAD);
            Edge.still("40: both", make, x -> x.drawn(-1, 3), BAD);
            for (int what = 0; what < 3; what++) {
                int w = what;
                Edge.asks("40: drawn", make, x -> x.drawn(4321, w));
            }
        }
    }

    /** The LOTS, by numbers of any length. */
    private static int lot(int seed, int which) {
        BigInteger lot = BigInteger.valueOf(seed + 1L);
        for (int i = 0; i <= which; i++) lot = lot.multiply(BigInteger.valueOf(48271)).mod(BigInteger.valueOf(2147483647));
        return lot.mod(BigInteger.valueOf(100)).intValue();
    }

    private static void drawn() {
        // LOTS modulo 100: SEED 0 71, SEED 68 99, SEED 99 0, SEED 99999 6 (4827100000 less twice 2147483647).
        int[][] first = {{0, 71}, {68, 99}, {99, 0}, {99999, 6}};
        for (int[] f : first) {
            due("40: the first LOT of " + f[0], lot(f[0], 0), f[1]);
            for (int how = 0; how <= 100; how++) {
                if (how > 2 && how < 98 && Math.abs(how - f[1]) > 1) continue;
                WhoeverHeard x = hearing(0, how, 1);
                due("40: HEARS " + how + ", SEED " + f[0], x.drawn(f[0], 0), f[1] < how ? 1 : 0);
                due("40: WORTH", x.drawn(f[0], 1), f[1] < how ? 3 : 0);
                due("40: pain", x.drawn(f[0], 2), f[1] < how ? 10 : 0);
                due("41: of one", x.odds(0, f[0], 1, 0), f[1] < how ? 1 : 0);
            }
        }
    }

    /** Eight of PEOPLE, ten SAYINGS: the last LOT is the eightieth. */
    private static void lots() {
        for (int seed : new int[] {0, 1, 4321, 99998, 99999}) {
            WhoeverHeard x = new WhoeverHeard();
            for (int p = 0; p < 8; p++) x.person(0, 0, 1 << p, 199);
            for (int q = 0; q < 8; q++) x.promise(q, 1, q, -1);
            for (int s = 0; s < 10; s++) x.say(s % 8, 1);
            x.force(Due.read(x, "heard 50;share 1;pain need;"));
            int kept = 0;
            int pain = 0;
            for (int q = 0; q < 8; q++) {
                for (int p = 0; p < 8; p++) {
                    boolean hears = lot(seed, 8 * q + p) < 50 || q < 2 && lot(seed, 8 * (q + 8) + p) < 50;
                    if (hears) pain++;
                    if (hears && p == q) kept |= 1 << q;
                }
            }
            due("40: each one's LOT", x.drawn(seed, 0), kept);
            due("40: all eighty", x.drawn(seed, 2), pain);
            due("18: heard() isn't DRAWN", x.heard(9), 255);
        }
    }

    private static void oddsRanges() {
        for (Edge.Make make : new Edge.Make[] {Edge::some, Edge::full}) {
            Edge.range("41: seed", make, (x, seed) -> x.odds(0, seed, 1, 0), 0, 99999, NO);
            Edge.range("41: seed of many", make, (x, seed) -> x.odds(0, seed, 20, 1), 0, 99999, NO);
            Edge.range("41: many", make, (x, many) -> x.odds(0, 0, many, 0), 1, 20, NO);
            Edge.range("41: many of the last", make, (x, many) -> x.odds(0, 99999, many, 1), 1, 20, NO);
            Edge.range("41: part", make, (x, part) -> x.odds(0, 5, 6, part), 0, 1, NO);
            Edge.asks("41: odds", make, x -> x.odds(0, 99990, 20, 1));
        }
        Edge.range("41: q", Edge::some, (x, q) -> x.odds(q, 5, 6, 0), 0, 2, NO);
        Edge.range("41: q of eight", Edge::full, (x, q) -> x.odds(q, 5, 6, 0), 0, 7, NO);
        Edge.none("41: no PROMISE", HostEdgeTest::peopleAlone, (x, q) -> x.odds(q, 5, 6, 0), NO);
    }

    private static int divisor(int a, int b) {
        return BigInteger.valueOf(a).gcd(BigInteger.valueOf(b)).intValue();
    }

    private static void odds() {
        int[] seeds = {0, 7, 99979, 99980, 99981, 99998, 99999};
        for (int seed : seeds) {
            WhoeverHeard x = hearing(0, 45, 1);
            int times = 0;
            for (int many = 1; many <= 20; many++) {
                // Each seed is 1 more than the last one, 99999 at most.
                if (lot(Math.min(99999, seed + many - 1), 0) < 45) times++;
                int by = divisor(times, many);
                due("41: above, " + seed + " and " + many, x.odds(0, seed, many, 0), times / by);
                due("41: below, " + seed + " and " + many, x.odds(0, seed, many, 1), many / by);
            }
        }
        for (int many = 1; many <= 20; many++) {
            due("41: never", hearing(0, 0, 1).odds(0, 0, many, 0), 0);
            due("41: never", hearing(0, 0, 1).odds(0, 0, many, 1), 1);
            due("41: ever", hearing(0, 100, 1).odds(0, 0, many, 0), 1);
            due("41: ever", hearing(0, 100, 1).odds(0, 0, many, 1), 1);
        }
    }

    private static void image() {
        Edge.still("43: there is none", WhoeverHeard::new, WhoeverHeard::back, STATE);
        Edge.still("43: there is none", HostEdgeTest::promisesAlone, WhoeverHeard::back, STATE);
        due("42: none said", new WhoeverHeard().image(), 0);
        due("42: some", Edge.some().image(), 3);
        due("43: some, of one", Edge.some().back(), 1);
        due("42: all ten", Edge.full().image(), 10);
        WhoeverHeard x = Edge.full();
        due("42: all ten", x.image(), 10);
        for (int left = 9; left >= 0; left--) x.unsay();
        due("43: ten of none", x.back(), 10);
        for (int s = 0; s < 10; s++) due("43: as it was", x.said(s, 0), s % 8);
        due("14: FULL by an image, too", x.say(0, 1), -4);
        for (int left = 9; left >= 0; left--) x.unsay();
        due("42: none of ten", x.image(), 0);
        x.say(0, 1);
        due("43: none of one", x.back(), 0);
        due("43: again", x.back(), 0);
        due("15: there is none", x.unsay(), STATE);
    }

    /** Another number in each place of all that an image keeps. */
    private static void fill(WhoeverHeard x, int by) {
        for (int u = 0; u < 6; u++) for (int v = 0; v < u; v++) x.far(u, v, (u * 3 + v + by) % 10);
        for (int t = 0; t < 6; t++) x.hush(t, (t + by) % 10);
        x.stride(by);
        for (int p = 0; p < 8; p++) x.move(p, (p + by) % 7 - 1);
        while (x.unsay() >= 0) due("15: said", x.count(3) < 10 ? 1 : 0, 1);
        for (int s = 0; s < 10; s++) x.say((s + by) % 8, (s + by) % 6 * 100 + (s * by) % 6 * 10 + 1 + (s + by) % 9);
        x.force(by % 6);
    }

    private static void imageOfAll() {
        WhoeverHeard x = Edge.full();
        fill(x, 3);
        due("42: all ten", x.image(), 10);
        fill(x, 8);
        x.unsay();
        due("43: all ten", x.back(), 10);
        for (int u = 0; u < 6; u++) {
            for (int v = 0; v < u; v++) due("43: HOW FAR", x.far(v, u, 0), (u * 3 + v + 3) % 10);
        }
        for (int t = 0; t < 6; t++) due("43: NOISE", x.hush(t, 0), (t + 3) % 10);
        due("43: STRIDE", x.stride(0), 3);
        for (int p = 0; p < 8; p++) due("43: who MOVED", x.move(p, 5), (p + 3) % 7 - 1);
        for (int s = 0; s < 10; s++) {
            int[] want = {(s + 3) % 8, (s + 3) % 6, s * 3 % 6, 1 + (s + 3) % 9};
            for (int what = 0; what < 4; what++) due("43: SAYINGS", x.said(s, what), want[what]);
        }
        due("43: THE LAW", x.count(5), 3);
        due("43: TEXTS stay", x.count(4), 6);
        due("43: THE TAPE stays", x.count(6), 160);
        due("43: PEOPLE stay", x.count(1), 8);
        due("43: PROMISES stay", x.count(2), 8);
        due("43: SHEETS stay", x.cell(3, 39, 0), 1);
    }

    /** PEOPLE, PROMISES, TEXTS, bytes, SHEETS that came since stay; what is kept is not what comes later. */
    private static void imageOfRows() {
        WhoeverHeard x = new WhoeverHeard();
        x.person(0, 100, 1, 199);
        due("42: none said", x.image(), 0);
        x.move(0, 3);
        for (int p = 1; p < 8; p++) x.person(1, 502, 255, 999);
        for (int p = 1; p < 8; p++) x.move(p, p % 6);
        for (int q = 0; q < 8; q++) x.promise(q, 99, 99, q - 1);
        for (int s = 0; s < 10; s++) x.say(7, 559);
        for (int t = 1; t < 6; t++) Due.read(x, "heard 1;share 1;pain 1;");
        x.force(5);
        x.feed(2, 1, 2, 3, 4, 5);
        x.sheet(2, 1, 40);
        due("43: none said", x.back(), 0);
        int[] counts = {2, 8, 8, 0, 6, 0, 2};
        for (int what = 0; what < 7; what++) due("43: count(" + what + ")", x.count(what), counts[what]);
        for (int p = 1; p < 8; p++) due("43: as they are", x.told(p, 0) * 10 + x.told(p, 6), 109);
        for (int q = 0; q < 8; q++) due("43: as they are", x.promised(q, 1) + x.promised(q, 3), 98 + q);
        due("43: the first one hadn't MOVED", x.move(0, 0), -1);
        due("43: a SHEET", x.cell(2, 39, 1), 1);
        due("42: another one", x.image(), 0);
        x.move(0, 4);
        x.say(0, 1);
        due("42: a third one", x.image(), 1);
        x.unsay();
        x.move(0, 5);
        due("43: the latest one", x.back(), 1);
        due("43: the latest one", x.move(0, -1), 4);
        x.unsay();
        due("43: it stays", x.back(), 1);
        due("43: it stays", x.move(0, -1), 4);
    }

    // ---- the host

    /** Ten SAYINGS that nobody hears, and all four SHEETS of one sort and size. */
    private static WhoeverHeard sheets(int sort, int n) {
        WhoeverHeard x = new WhoeverHeard();
        x.promise(0, 1, 1, -1);
        for (int s = 0; s < 10; s++) x.say(0, 1);
        for (int s = 0; s < 4; s++) x.sheet(s, sort, n);
        return x;
    }

    /** Ten numbers of a SHEET, from a place on, are 0: by SHEET 3, of nobody. */
    private static void zeros(String call, WhoeverHeard x, int s, int from, int sort) {
        due(call, x.sheet(3, sort, 10), 1);
        due(call + ", from " + from, x.copy(s, from, 3, 0, 10), 10);
        due(call + " are 0, from " + from, x.witness(3), -1);
    }

    private static void sheetRefusals() {
        for (Edge.Make make : new Edge.Make[] {WhoeverHeard::new, Edge::some, Edge::full}) {
            for (int b = -1; b <= 2; b++) {
                int sort = b;
                Edge.range("44: SHEET", make, (x, s) -> x.sheet(s, sort, 5), 0, 3, BAD);
                if (sort < 0) continue;
                for (int n : new int[] {-1, -2, MIN}) Edge.still("44: n", make, x -> x.sheet(1, sort, n), BELOW);
                for (int n : new int[] {41, 42, MAX}) Edge.still("44: n", make, x -> x.sheet(1, sort, n), BAD);
                for (int n : new int[] {0, 1, 39, 40}) due("44: n", make.make().sheet(1, sort, n), 1);
                Edge.still("44: SHEET ahead of n below", make, x -> x.sheet(4, sort, -1), BAD);
            }
            Edge.range("44: sort", make, (x, sort) -> x.sheet(2, sort, 5), -1, 2, BAD);
            Edge.still("44: sort ahead of n below", make, x -> x.sheet(0, 3, -1), BAD);
            Edge.still("44: sort ahead of n below", make, x -> x.sheet(0, -2, MIN), BAD);
            for (int n : new int[] {0, 40, 41, -1, MIN, MAX}) due("44: missing, whatever n", make.make().sheet(0, -1, n), 1);
        }
    }

    private static void sheet() {
        for (int sort = 0; sort < 3; sort++) {
            for (int n : new int[] {0, 1, 2, 39, 40}) {
                for (int s = 0; s < 4; s++) {
                    WhoeverHeard x = sheets(2, 3);
                    due("44: a row", x.sheet(s, sort, n), 1);
                    due("45: behind its last one", x.cell(s, n, 0), OUTSIDE);
                    if (n > 0) due("45: its last one", x.cell(s, n - 1, 0), 1);
                    due("46: its sort", x.copy(s, 0, s == 0 ? 1 : 0, 0, 0), sort == 2 ? 0 : UNLIKE);
                    due("44: the others stay", x.cell((s + 1) % 4, 2, 0), 1);
                    due("44: the others stay", x.cell((s + 1) % 4, 3, 0), OUTSIDE);
                    due("44: missing", x.sheet(s, -1, 40), 1);
                    due("45: missing", x.cell(s, 0, 0), NOTHING);
                    due("46: missing", x.copy(s, 0, s, 0, 0), NOTHING);
                    due("47: missing", x.promisesBy(s, sort, 0, 0), NOTHING);
                    due("38: missing", x.witness(s), NOTHING);
                }
            }
        }
    }

    private static void sheetAnew() {
        for (int sort = 0; sort < 3; sort++) {
            for (int s = 0; s < 3; s++) {
                WhoeverHeard x = sheets(sort, 40);
                for (int from = 0; from <= 30; from += 10) zeros("44: at first", x, s, from, sort);
                for (int i = 0; i < 40; i++) x.cell(s, i, i + 1);
                due("44: refused", x.sheet(s, sort, 41), BAD);
                due("44: refused", x.sheet(s, sort, -1), BELOW);
                due("44: refused", x.sheet(s, 3, 40), BAD);
                x.sheet(3, sort, 10);
                x.copy(s, 0, 3, 0, 10);
                due("44: as it was", x.witness(3), 0);
                x.sheet(s, sort, 40);
                for (int from = 0; from <= 30; from += 10) zeros("44: all 0", x, s, from, sort);
                for (int i = 0; i < 40; i++) x.cell(s, i, -1);
                x.sheet(s, sort, 1);
                x.sheet(s, sort, 40);
                for (int from = 0; from <= 30; from += 10) zeros("44: all 0 again", x, s, from, sort);
                for (int i = 0; i < 40; i++) x.cell(s, i, -1);
                x.sheet(s, -1, 0);
                x.sheet(s, sort, 40);
                for (int from = 0; from <= 30; from += 10) zeros("44: 0 where it was missing", x, s, from, sort);
            }
        }
    }

    private static void cellRefusals() {
        Edge.range("45: SHEET", Edge::some, (x, s) -> x.cell(s, 0, 0), 0, 3, BAD);
        Edge.range("45: SHEET of none", WhoeverHeard::new, (x, s) -> x.cell(s, 0, 0), 0, 3, BAD);
        Edge.range("45: i of 3", Edge::some, (x, i) -> x.cell(0, i, 0), 0, 2, OUTSIDE);
        Edge.range("45: i of 10", Edge::some, (x, i) -> x.cell(1, i, 0), 0, 9, OUTSIDE);
        Edge.range("45: i of 40", Edge::some, (x, i) -> x.cell(2, i, 0), 0, 39, OUTSIDE);
        Edge.none("45: i of none", () -> sheets(1, 0), (x, i) -> x.cell(3, i, 7), OUTSIDE);
        Edge.none("45: missing", Edge::some, (x, i) -> x.cell(3, i, 7), NOTHING);
        Edge.still("45: SHEET ahead of i", Edge::some, x -> x.cell(4, -1, 0), BAD);
    }

    /** A promise by four cells, put so: 1, if it came. */
    private static int came(int sort, int w, int n, int v, int against) {
        WhoeverHeard x = new WhoeverHeard();
        x.sheet(0, sort, 4);
        x.cell(0, 0, w);
        x.cell(0, 1, n);
        x.cell(0, 2, v);
        x.cell(0, 3, against);
        int came = x.promisesBy(0, sort, 0, 1);
        if (came == 1) due("47: as of promise()", x.promised(0, 0) * 10000 + x.promised(0, 1) * 100 + x.promised(0, 2), 79988);
        return came;
    }

    private static void cells() {
        // Its lowest 8 bits are 99 (-1), its lowest 16, all 32.
        int[][] needs = {{99, 1, 1, 1}, {99 + 256, 1, 0, 0}, {99 - 256, 1, 0, 0}, {99 + 65536, 1, 1, 0}, {99 - 65536, 1, 1, 0},
            {MIN + 99, 1, 1, 0}, {MAX - 156, 1, 0, 0}, {MAX - 65436, 1, 1, 0}, {100, 0, 0, 0}, {99 + 128, 0, 0, 0},
            {99 + 32768, 1, 0, 0}, {99 + 512, 1, 0, 0}, {99 + 131072, 1, 1, 0}};
        int[][] none = {{-1, 1, 1, 1}, {255, 1, 0, 0}, {511, 1, 0, 0}, {-257, 1, 0, 0}, {65535, 1, 1, 0}, {131071, 1, 1, 0},
            {MAX, 1, 1, 0}, {MIN, 0, 0, 0}, {-2, 0, 0, 0}, {127, 0, 0, 0}, {32767, 1, 0, 0}, {-65537, 1, 1, 0}};
        for (int sort = 0; sort < 3; sort++) {
            for (int[] n : needs) due("45: " + n[0] + " of sort " + sort, came(sort, 7, n[0], 88, -1), n[sort + 1]);
            for (int[] n : none) due("45: " + n[0] + " of sort " + sort, came(sort, 7, 99, 88, n[0]), n[sort + 1]);
        }
        // A byte tells PEOPLE by its eight bits.
        for (int v : new int[] {128, -128, 384, MIN + 128}) {
            WhoeverHeard x = new WhoeverHeard();
            for (int p = 0; p < 8; p++) x.person(0, p == 7 ? 0 : 500, 1, 199);
            x.promise(0, 1, 1, -1);
            x.say(0, 1);
            x.sheet(0, 0, 1);
            due("45: the eighth bit", x.cell(0, 0, v), 1);
            due("38: the last of PEOPLE", x.witness(0), -1);
        }
    }

    /** SHEETS 0 and 1 of ints, of 10 and 40; SHEET 2 of shorts, SHEET 3 missing. */
    private static WhoeverHeard three() {
        WhoeverHeard x = sheets(2, 10);
        x.sheet(1, 2, 40);
        x.sheet(2, 1, 10);
        x.sheet(3, -1, 0);
        return x;
    }

    private static void copyRefusals() {
        Edge.Make make = HostEdgeTest::three;
        Edge.range("46: s", make, (x, s) -> x.copy(s, 0, 1, 0, 1), 0, 3, BAD);
        Edge.range("46: other", make, (x, s) -> x.copy(0, 0, s, 0, 1), 0, 3, BAD);
        Edge.range("46: i", make, (x, i) -> x.copy(0, i, 1, 20, 3), 0, 7, OUTSIDE);
        Edge.range("46: j", make, (x, j) -> x.copy(0, 0, 1, j, 3), 0, 37, OUTSIDE);
        Edge.range("46: n", make, (x, n) -> x.copy(0, 0, 1, 0, n), 0, 10, OUTSIDE);
        Edge.range("46: n to the lesser", make, (x, n) -> x.copy(1, 0, 0, 0, n), 0, 10, OUTSIDE);
        Edge.range("46: n from a place on", make, (x, n) -> x.copy(1, 35, 1, 0, n), 0, 5, OUTSIDE);
        Edge.range("46: n to a place", make, (x, n) -> x.copy(1, 0, 1, 36, n), 0, 4, OUTSIDE);
        Edge.range("46: i of none", make, (x, i) -> x.copy(0, i, 1, 0, 0), 0, 10, OUTSIDE);
        Edge.range("46: j of none", make, (x, j) -> x.copy(0, 0, 1, j, 0), 0, 40, OUTSIDE);
        Edge.still("46: s ahead of missing", make, x -> x.copy(4, 0, 3, 0, 1), BAD);
        Edge.still("46: other ahead of missing", make, x -> x.copy(3, 0, -1, 0, 1), BAD);
        Edge.still("46: s ahead of a place", make, x -> x.copy(-1, -1, 0, -1, -1), BAD);
        Edge.still("46: missing", make, x -> x.copy(3, 0, 0, 0, 1), NOTHING);
        Edge.still("46: other missing", make, x -> x.copy(0, 0, 3, 0, 1), NOTHING);
        Edge.still("46: both missing", make, x -> x.copy(3, 0, 3, 0, 0), NOTHING);
        Edge.still("46: missing ahead of a place", make, x -> x.copy(3, -1, 0, -1, -1), NOTHING);
        Edge.still("46: other missing ahead of a place", make, x -> x.copy(0, 11, 3, 0, -1), NOTHING);
        Edge.still("46: missing ahead of sorts", make, x -> x.copy(2, 0, 3, 0, 1), NOTHING);
        Edge.still("46: sorts", make, x -> x.copy(2, 0, 0, 0, 0), UNLIKE);
        Edge.still("46: sorts ahead of i", make, x -> x.copy(2, -1, 0, 0, 1), UNLIKE);
        Edge.still("46: sorts ahead of j", make, x -> x.copy(0, 0, 2, 11, 1), UNLIKE);
        Edge.still("46: sorts ahead of n", make, x -> x.copy(0, 0, 2, 0, -1), UNLIKE);
        Edge.still("46: all places outside", make, x -> x.copy(0, MAX, 1, MAX, MAX), OUTSIDE);
        Edge.still("46: all places below", make, x -> x.copy(0, MIN, 1, MIN, MIN), OUTSIDE);
        Edge.still("46: i and n wrap", make, x -> x.copy(0, 1, 1, 1, MAX), OUTSIDE);
        Edge.still("46: j and n wrap", make, x -> x.copy(0, 0, 1, MAX, 1), OUTSIDE);
        Edge.still("46: n least, i most", make, x -> x.copy(0, MAX, 1, 0, MIN), OUTSIDE);
        for (int sort = 0; sort < 3; sort++) {
            for (int other = 0; other < 3; other++) {
                WhoeverHeard x = new WhoeverHeard();
                x.sheet(0, sort, 4);
                x.sheet(3, other, 4);
                due("46: sorts " + sort + ", " + other, x.copy(0, 0, 3, 0, 4), sort == other ? 4 : UNLIKE);
            }
        }
    }

    /** Refused, no number comes: SHEET 1 stays all 0. */
    private static void copy() {
        WhoeverHeard x = three();
        for (int i = 0; i < 10; i++) x.cell(0, i, 7);
        int[][] refused = {{0, 31, 10}, {1, 0, 10}, {0, 0, 11}, {0, 0, -1}, {-1, 0, 5}, {0, -1, 5}, {0, 40, 1}, {10, 0, 1}};
        for (int[] r : refused) due("46: refused", x.copy(0, r[0], 1, r[1], r[2]), OUTSIDE);
        due("46: none", x.copy(0, 10, 1, 40, 0), 0);
        for (int from = 0; from <= 30; from += 10) zeros("46: nothing came", x, 1, from, 2);
        due("46: all of it, to the end", x.copy(0, 0, 1, 30, 10), 10);
        for (int from = 0; from <= 20; from += 10) zeros("46: nothing else came", x, 1, from, 2);
        due("46: all but 30", x.copy(1, 29, 0, 0, 10), 10);
        due("46: its first is 0", x.witness(0), 1);
        due("46: one", x.copy(1, 0, 0, 9, 1), 1);
        for (int i = 1; i < 9; i++) x.cell(0, i, 0);
        due("46: its last is 0", x.witness(0), -1);
    }

    /** Nine SAYINGS heard by ever fewer, one by nobody: each cell tells which it is. */
    private static void copyWithin() {
        for (int sort = 0; sort < 3; sort++) {
            for (int by = -9; by <= 9; by++) {
                WhoeverHeard x = new WhoeverHeard();
                for (int p = 0; p < 8; p++) x.person(5, p + 1, 1, 199);
                x.promise(0, 1, 1, -1);
                x.force(Due.read(x, "heard 100;share 0;pain 0;"));
                for (int s = 0; s < 10; s++) x.say(0, Math.min(9, s + 1));
                int n = 10 - Math.abs(by);
                int from = Math.max(0, -by);
                x.sheet(1, sort, 10);
                for (int i = 0; i < n; i++) x.cell(1, from + i, x.heard(from + by + i));
                due("46: its own, by " + by, x.copy(1, from, 1, from + by, n), n);
                for (int i = 0; i < 10; i++) if (i < from + by || i >= from + by + n) x.cell(1, i, x.heard(i));
                due("46: as they were, by " + by, x.witness(1), -1);
            }
        }
    }

    private static void promisesByRefusals() {
        Edge.Make make = HostEdgeTest::three;
        Edge.range("47: s", make, (x, s) -> x.promisesBy(s, 2, 0, 1), 0, 3, BAD);
        Edge.range("47: sort", make, (x, sort) -> x.promisesBy(0, sort, 0, 1), 0, 2, BAD);
        Edge.range("47: n", make, (x, n) -> x.promisesBy(1, 2, 0, n), 0, 8, BAD);
        Edge.range("47: at", make, (x, at) -> x.promisesBy(0, 2, at, 1), 0, 6, OUTSIDE);
        Edge.range("47: at of two", make, (x, at) -> x.promisesBy(0, 2, at, 2), 0, 2, OUTSIDE);
        Edge.range("47: at of eight", make, (x, at) -> x.promisesBy(1, 2, at, 8), 0, 8, OUTSIDE);
        Edge.none("47: missing", make, (x, at) -> x.promisesBy(3, 2, at, 1), NOTHING);
        Edge.none("47: sorts", make, (x, at) -> x.promisesBy(2, 2, at, 1), UNLIKE);
        Edge.still("47: s ahead of all", make, x -> x.promisesBy(4, 0, -1, 1), BAD);
        Edge.still("47: sort ahead of missing", make, x -> x.promisesBy(3, 3, -1, 1), BAD);
        Edge.still("47: sort -1 is none", make, x -> x.promisesBy(3, -1, 0, 1), BAD);
        Edge.still("47: n ahead of missing", make, x -> x.promisesBy(3, 0, -1, 9), BAD);
        Edge.still("47: n ahead of sorts", make, x -> x.promisesBy(2, 0, 0, -1), BAD);
        Edge.still("47: n ahead of the place", make, x -> x.promisesBy(0, 2, -1, 9), BAD);
        Edge.still("47: sorts ahead of the place", make, x -> x.promisesBy(2, 0, 41, 8), UNLIKE);
        for (int at : new int[] {-1, -4, 7, 8, 9, 10, 11, MIN, MIN + 4, MAX, MAX - 3, MAX - 4}) {
            for (int n : new int[] {1, 8}) Edge.still("47: at " + at, make, x -> x.promisesBy(0, 2, at, n), OUTSIDE);
        }
        for (int sort = 0; sort < 3; sort++) {
            for (int other = 0; other < 3; other++) {
                int b = sort;
                int o = other;
                Edge.still("47: of sort " + other, () -> sheets(b, 4), x -> x.promisesBy(0, o, 0, 1), b == o ? 0 : UNLIKE);
            }
        }
        Edge.still("47: none of none", () -> sheets(0, 0), x -> x.promisesBy(0, 0, 0, 0), 0);
        Edge.still("47: one of none", () -> sheets(0, 0), x -> x.promisesBy(0, 0, 0, 1), OUTSIDE);
    }

    private static void promisesBy() {
        for (int size = 0; size <= 40; size++) {
            for (int n = 0; n <= 8; n++) {
                WhoeverHeard x = new WhoeverHeard();
                x.sheet(1, 0, size);
                for (int i = 1; i < size; i += 4) x.cell(1, i, i);
                // Each CONTRARY to none, and to the one that came ahead.
                for (int i = 3; i < size; i += 4) x.cell(1, i, i / 4 - 1);
                boolean fits = 4 * n <= size;
                int ahead = Math.min(n, size / 4);
                due("47: " + n + " of " + size, x.promisesBy(1, 0, 0, n), fits ? n : OUTSIDE);
                due("47: what stood ahead came", x.count(2), ahead);
                if (ahead > 0) due("47: the last one that came", x.promised(ahead - 1, 1), 4 * ahead - 3);
                if (ahead > 0) due("47: CONTRARY", x.promised(ahead - 1, 3), ahead - 2);
            }
        }
        // The edges of each of the four; what is BAD is left out, and those behind it come.
        int[][] rows = {{0, 1, 0, -1}, {7, 99, 99, 0}, {8, 1, 0, -1}, {-1, 1, 0, -1}, {0, 0, 0, -1}, {0, 100, 0, -1},
            {0, 1, -1, -1}, {0, 1, 100, -1}, {0, 1, 0, -2}, {3, 4, 5, 1}};
        WhoeverHeard x = new WhoeverHeard();
        x.sheet(0, 1, 40);
        for (int k = 0; k < 10; k++) for (int i = 0; i < 4; i++) x.cell(0, 4 * k + i, rows[k][i]);
        due("47: the first two", x.promisesBy(0, 1, 0, 8), 2);
        due("47: the last one", x.promisesBy(0, 1, 8, 8), 1);
        for (int what = 0; what < 4; what++) {
            due("47: as of promise()", x.promised(1, what), rows[1][what]);
            due("47: as of promise()", x.promised(2, what), rows[9][what]);
        }
        due("47: from any place on: 0 -1 7 99", x.promisesBy(0, 1, 2, 1), 0);
        due("47: how many", x.count(2), 3);
    }

    private static void promisesByFull() {
        WhoeverHeard x = new WhoeverHeard();
        x.sheet(0, 2, 40);
        for (int k = 0; k < 10; k++) {
            x.cell(0, 4 * k + 1, k + 1);
            x.cell(0, 4 * k + 3, -1);
        }
        due("47: six", x.promisesBy(0, 2, 0, 6), 6);
        due("47: two have room", x.promisesBy(0, 2, 8, 8), 2);
        due("47: the first two of these", x.promised(6, 1), 3);
        due("47: the first two of these", x.promised(7, 1), 4);
        due("47: FULL, all are left out", x.promisesBy(0, 2, 0, 8), 0);
        due("47: FULL, and outside", x.promisesBy(0, 2, 9, 8), OUTSIDE);
        due("47: FULL, none", x.promisesBy(0, 2, 0, 0), 0);
        due("47: eight", x.count(2), 8);
    }

    private static void taken() {
        for (Edge.Make make : new Edge.Make[] {WhoeverHeard::new, Edge::some, Edge::full}) {
            Edge.range("48: i", make, (x, i) -> x.taken(i, 0), 0, 15, OUTSIDE);
            Edge.range("48: i, as a PROMISE", make, (x, i) -> x.taken(i, 6), 0, 15, OUTSIDE);
            Edge.range("48: kind of a PROMISE", make, (x, kind) -> x.taken(0, kind), 0, 6, BAD);
            Edge.range("48: kind of one", make, (x, kind) -> x.taken(8, kind), 0, 6, BAD);
            Edge.still("48: kind ahead of i", make, x -> x.taken(16, 7), BAD);
            Edge.still("48: kind ahead of i", make, x -> x.taken(-1, -1), BAD);
        }
        for (int kind = 0; kind <= 6; kind++) {
            int k = kind;
            for (int i : new int[] {3, 7, 11, 15}) Edge.still("48: nothing lies there", Edge::some, x -> x.taken(i, k), NOTHING);
            for (int i = 0; i < 16; i++) due("48: nothing at all", new WhoeverHeard().taken(i, k), NOTHING);
            for (int i : new int[] {0, 2}) Edge.still("48: a PROMISE", Edge::some, x -> x.taken(i, k), k < 6 ? UNLIKE : i == 0 ? 12 : 1);
        }
    }

    private static void takenOfFull() {
        WhoeverHeard x = Edge.full();
        for (int q = 0; q < 8; q++) due("48: how much it NEEDS", x.taken(q, 6), 10 + q);
        // Which KINDS (bits) each KIND is: 0; 0 1; 0 2; 0 1 3; 0 4; 0 1 5.
        int[] is = {1, 3, 5, 11, 17, 35};
        for (int p = 0; p < 8; p++) {
            for (int kind = 0; kind < 6; kind++) {
                due("48: " + p % 6 + " for " + kind, x.taken(8 + p, kind), (is[p % 6] >> kind & 1) == 1 ? p : UNLIKE);
                due("48: a PROMISE for " + kind, x.taken(p, kind), UNLIKE);
            }
            due("48: one isn't a PROMISE", x.taken(8 + p, 6), UNLIKE);
        }
    }
}
