/** Promises 17 to 34, at their edges. */
public final class KeptEdgeTest {
    private static final int BAD = -2, STATE = -3, NO_SUCH = -5, NOT_SO = -7;
    private static final int MIN = Edge.MIN, MAX = Edge.MAX;
    /** The most int, in words of a TEXT. */
    private static final String MOST = "(9999*9999*21+9999*4790+8416)";

    public static void main(String[] args) {
        numbers();
        numbersOfFull();
        numbersOfNone();
        whatIsAsked();
        asksLeaveAll();
        hears();
        hearsByKinds();
        heard();
        nobody();
        shares();
        namesNotTold();
        contrary();
        room();
        pain();
        done();
        sum();
        judge();
        walk();
        best();
        bestLast();
        foe();
        loud();
        loudOfMinutes();
        spare();
        even();
        evenOfThose();
        flights();
        rest();
        freshRows();
        unsaidRows();
        Due.end();
    }

    private static void due(String call, long got, long want) {
        Due.due(call, got, want);
    }

    /** The calls of one number of a SAYING, one, a PROMISE; the others are there. */
    private static void ranges(String of, Edge.Make make, int people, int promises, int sayings) {
        Edge.range("17: s" + of, make, (x, s) -> x.hears(s, 0), 0, sayings, NO_SUCH);
        Edge.range("17: p" + of, make, (x, p) -> x.hears(0, p), 0, people, NO_SUCH);
        Edge.range("18: s" + of, make, (x, s) -> x.heard(s), 0, sayings, NO_SUCH);
        Edge.range("20: p" + of, make, (x, p) -> x.owe(p, 0), 0, people, NO_SUCH);
        Edge.range("20: q" + of, make, (x, q) -> x.owe(0, q), 0, promises, NO_SUCH);
        Edge.range("21: p" + of, make, (x, p) -> x.load(p, 0), 0, people, NO_SUCH);
        Edge.range("22: q" + of, make, (x, q) -> x.done(q), 0, promises, NO_SUCH);
        Edge.range("26: q" + of, make, (x, q) -> x.best(q, 0), 0, promises, NO_SUCH);
        Edge.range("27: p" + of, make, (x, p) -> x.foe(p, 0, 0), 0, people, NO_SUCH);
        Edge.range("27: q" + of, make, (x, q) -> x.foe(0, q, 1), 0, promises, NO_SUCH);
        Edge.range("28: q" + of, make, (x, q) -> x.loud(q, 0, 0), 0, promises, NO_SUCH);
        Edge.range("30: q" + of, make, (x, q) -> x.even(q, 0), 0, promises, NO_SUCH);
        Edge.range("30: p" + of, make, (x, p) -> x.even(0, p), 0, people, NO_SUCH);
        Edge.range("31: q" + of, make, (x, q) -> x.hardest(q), 0, promises, NO_SUCH);
        Edge.range("32: p" + of, make, (x, p) -> x.flee(p, 0), 0, people, NO_SUCH);
        Edge.range("33: p" + of, make, (x, p) -> x.send(p, 1), 0, people, NO_SUCH);
    }

    private static void numbers() {
        ranges(" of three", Edge::some, 2, 2, 2);
    }

    private static void numbersOfFull() {
        ranges(" of all", Edge::full, 7, 7, 9);
    }

    private static WhoeverHeard peopleAlone() {
        WhoeverHeard x = new WhoeverHeard();
        x.person(0, 0, 1, 199);
        return x;
    }

    private static WhoeverHeard promisesAlone() {
        WhoeverHeard x = new WhoeverHeard();
        x.promise(0, 1, 1, -1);
        x.say(0, 1);
        return x;
    }

    private static void numbersOfNone() {
        Edge.none("17: no SAYING", KeptEdgeTest::peopleAlone, (x, s) -> x.hears(s, 0), NO_SUCH);
        Edge.none("17: nobody", KeptEdgeTest::promisesAlone, (x, p) -> x.hears(0, p), NO_SUCH);
        Edge.none("18: no SAYING", KeptEdgeTest::peopleAlone, (x, s) -> x.heard(s), NO_SUCH);
        Edge.none("20: nobody", KeptEdgeTest::promisesAlone, (x, p) -> x.owe(p, 0), NO_SUCH);
        Edge.none("20: no PROMISE", KeptEdgeTest::peopleAlone, (x, q) -> x.owe(0, q), NO_SUCH);
        Edge.none("21: nobody", KeptEdgeTest::promisesAlone, (x, p) -> x.load(p, 0), NO_SUCH);
        Edge.none("22: no PROMISE", KeptEdgeTest::peopleAlone, (x, q) -> x.done(q), NO_SUCH);
        Edge.none("26: no PROMISE", KeptEdgeTest::peopleAlone, (x, q) -> x.best(q, 0), NO_SUCH);
        Edge.none("27: nobody", KeptEdgeTest::promisesAlone, (x, p) -> x.foe(p, 0, 0), NO_SUCH);
        Edge.none("27: no PROMISE", KeptEdgeTest::peopleAlone, (x, q) -> x.foe(0, q, 0), NO_SUCH);
        Edge.none("28: no PROMISE", KeptEdgeTest::peopleAlone, (x, q) -> x.loud(q, 0, 0), NO_SUCH);
        Edge.none("30: no PROMISE", KeptEdgeTest::peopleAlone, (x, q) -> x.even(q, 0), NO_SUCH);
        Edge.none("30: nobody", KeptEdgeTest::promisesAlone, (x, p) -> x.even(0, p), NO_SUCH);
        Edge.none("31: no PROMISE", KeptEdgeTest::peopleAlone, (x, q) -> x.hardest(q), NO_SUCH);
        Edge.none("32: nobody", KeptEdgeTest::promisesAlone, (x, p) -> x.flee(p, 0), NO_SUCH);
        Edge.none("33: nobody", KeptEdgeTest::promisesAlone, (x, p) -> x.send(p, 0), NO_SUCH);
    }

    private static void whatIsAsked() {
        for (Edge.Make make : new Edge.Make[] {Edge::some, Edge::full}) {
            Edge.range("21: what", make, (x, what) -> x.load(0, what), 0, 4, NOT_SO);
            Edge.range("23: what", make, (x, what) -> x.sum(what), 0, 3, BAD);
            Edge.range("26: what", make, (x, what) -> x.best(0, what), 0, 1, NOT_SO);
            Edge.range("27: what", make, (x, what) -> x.foe(0, 0, what), 0, 1, NOT_SO);
            Edge.range("28: u", make, (x, u) -> x.loud(0, u, 0), 0, 5, NOT_SO);
            Edge.range("28: t", make, (x, t) -> x.loud(0, 0, t), 0, 5, NOT_SO);
            Edge.range("32: what", make, (x, what) -> x.flee(0, what), 0, 1, NOT_SO);
            Edge.range("33: what", make, (x, what) -> x.send(0, what), 0, 1, NOT_SO);
            Edge.range("34: most", make, (x, most) -> x.rest(most), 0, 6, BAD);
        }
        Edge.range("23: what, of nothing", WhoeverHeard::new, (x, what) -> x.sum(what), 0, 3, BAD);
        Edge.range("34: most, of nothing", WhoeverHeard::new, (x, most) -> x.rest(most), 0, 6, BAD);
        Edge.still("21: p ahead of what", Edge::some, x -> x.load(3, 5), NO_SUCH);
        Edge.still("26: q ahead of what", Edge::some, x -> x.best(3, 2), NO_SUCH);
        Edge.still("27: p ahead of what", Edge::some, x -> x.foe(3, 0, 2), NO_SUCH);
        Edge.still("27: q ahead of what", Edge::some, x -> x.foe(0, -1, -1), NO_SUCH);
        Edge.still("28: q ahead of PLACE", Edge::some, x -> x.loud(3, 6, 0), NO_SUCH);
        Edge.still("28: q ahead of MINUTE", Edge::some, x -> x.loud(-1, 0, 6), NO_SUCH);
        Edge.still("32: p ahead of what", Edge::some, x -> x.flee(3, 2), NO_SUCH);
        Edge.still("33: p ahead of what", Edge::some, x -> x.send(-1, -1), NO_SUCH);
        // A -1 that is an answer comes behind the refusal of a number.
        Edge.still("26: what ahead of none", KeptEdgeTest::promisesAlone, x -> x.best(0, 2), NOT_SO);
        Edge.still("28: PLACE ahead of none", KeptEdgeTest::promisesAlone, x -> x.loud(0, 6, 0), NOT_SO);
        Edge.still("28: MINUTE ahead of none", KeptEdgeTest::promisesAlone, x -> x.loud(0, 0, -1), NOT_SO);
        Edge.still("30: one ahead of STATE", KeptEdgeTest::promisesAlone, x -> x.even(0, 0), NO_SUCH);
        Edge.still("31: q ahead of none", KeptEdgeTest::promisesAlone, x -> x.hardest(1), NO_SUCH);
    }

    private static void asksLeaveAll() {
        for (Edge.Make make : new Edge.Make[] {Edge::some, Edge::full}) {
            Edge.asks("17: hears", make, x -> x.hears(2, 1));
            Edge.asks("18: heard", make, x -> x.heard(2));
            Edge.asks("19: nobody", make, WhoeverHeard::nobody);
            Edge.asks("20: owe", make, x -> x.owe(2, 2));
            Edge.asks("21: load", make, x -> x.load(1, 3));
            Edge.asks("22: done", make, x -> x.done(1));
            Edge.asks("23: sum", make, x -> x.sum(2));
            Edge.asks("24: judge", make, WhoeverHeard::judge);
            Edge.asks("25: walk", make, WhoeverHeard::walk);
            for (int what = 0; what < 2; what++) {
                int w = what;
                Edge.asks("26: best", make, x -> x.best(0, w));
                Edge.asks("27: foe", make, x -> x.foe(1, 0, w));
                Edge.asks("32: flee", make, x -> x.flee(1, w));
                Edge.asks("33: send", make, x -> x.send(2, w));
            }
            Edge.asks("28: loud", make, x -> x.loud(0, 3, 3));
            Edge.asks("29: spare", make, WhoeverHeard::spare);
            Edge.asks("30: even", make, x -> x.even(0, 1));
            Edge.asks("31: hardest", make, x -> x.hardest(0));
            Edge.asks("34: none at most", make, x -> x.rest(0));
        }
    }

    /** One of a KIND (HOME 0, EAR 0), one PROMISE (NEEDS 99), said once at PLACE 0, by a TEXT; ROOM 99. */
    private static WhoeverHeard one(int kind, int more, int loud, String text) {
        WhoeverHeard x = new WhoeverHeard();
        x.person(kind, more, 1, 199);
        x.promise(0, 99, 1, -1);
        x.say(0, loud);
        if (x.force(Due.read(x, text)) != 0) due("a TEXT " + text, 0, 1);
        return x;
    }

    private static void hears(String e, int want) {
        due("17: heard " + e, one(0, 0, 1, "heard " + e + ";share 0;pain 0;").hears(0, 0), want);
        due("17: DEAF: heard " + e, one(2, 0, 1, "heard " + e + ";share 0;pain 0;").hears(0, 0), want / 2);
        due("17: CHILD: heard " + e, one(4, 0, 1, "heard " + e + ";share 0;pain 0;").hears(0, 0), want);
        due("17: SHY: heard " + e, one(5, 1, 1, "heard " + e + ";share 0;pain 0;").hears(0, 0), want);
        due("17: SHY, LOUD: heard " + e, one(5, 0, 1, "heard " + e + ";share 0;pain 0;").hears(0, 0), 0);
    }

    private static void hears() {
        hears("0-9999", 0);
        hears("0-1", 0);
        hears("0", 0);
        hears("1", 1);
        hears("2", 2);
        hears("99", 99);
        hears("100", 100);
        hears("101", 100);
        hears("200", 100);
        hears("9999", 100);
        hears(MOST, 100);
        hears(MOST + "+1", 0);
        hears("-" + MOST + "-1", 0);
        hears("-" + MOST + "-2", 100);
        hears("9999*9999*43", 100);
        hears("9999*9999*22", 0);
    }

    private static void hearsByKinds() {
        for (int more = 0; more < 10; more++) {
            for (int loud = 1; loud < 10; loud++) {
                WhoeverHeard x = one(5, more, loud, "heard 77;share 0;pain 0;");
                due("17: SHY, MORE " + more + ", LOUD " + loud, x.hears(0, 0), loud > more ? 0 : 77);
            }
        }
        // In MINUTE 5 each is where KIND, HOME 5 and MORE take one; said at PLACE 0, far * 10 is told.
        int[] want = {50, 40, 25, 40, 50, 40};
        for (int kind = 0; kind < 6; kind++) {
            WhoeverHeard x = new WhoeverHeard();
            x.person(kind, 509, 1, 199);
            x.person(kind, 501, 1, 199);
            x.promise(0, 1, 1, -1);
            x.say(0, 51);
            x.force(Due.read(x, "heard far * 10;share 0;pain 0;"));
            due("17: MORE 9, KIND " + kind, x.hears(0, 0), kind == 2 ? 25 : 50);
            due("17: MORE 1, KIND " + kind, x.hears(0, 1), kind == 5 ? 40 : want[kind]);
        }
        // EAR, LOUD, NOISE at their edges.
        for (int v = 0; v < 10; v += 9) {
            WhoeverHeard x = new WhoeverHeard();
            x.person(0, 10 * v, 1, 199);
            x.promise(0, 1, 1, -1);
            x.hush(5, v);
            x.say(0, 51 + v / 9 * 8);
            x.force(Due.read(x, "heard ear * 2 + base * 4 + loud;share 0;pain 0;"));
            due("17: EAR, NOISE, LOUD", x.hears(0, 0), v == 0 ? 1 : 63);
        }
    }

    private static void heard() {
        int[] by = {0, 49, 50, 51, 99, 100, 101};
        for (int h : by) {
            String text = "heard " + h + ";share need;pain 0;";
            int deaf = Math.min(h, 100) / 2;
            due("18: CLEARLY by " + h, one(0, 0, 1, text).heard(0), h >= 50 ? 1 : 0);
            due("18: DEAF, CLEARLY by " + h, one(2, 0, 1, text).heard(0), deaf >= 50 ? 1 : 0);
            due("18: CHILD, CLEARLY by " + h, one(4, 0, 1, text).heard(0), h >= 50 ? 1 : 0);
            due("19: nobody by " + h, one(0, 0, 1, text).nobody(), h >= 50 ? 0 : 1);
            due("20: owes by " + h, one(0, 0, 1, text).owe(0, 0), h >= 50 ? 99 : 0);
            due("20: DEAF owes by " + h, one(2, 0, 1, text).owe(0, 0), deaf >= 50 ? 99 : 0);
            due("20: a CHILD isn't BOUND", one(4, 0, 1, text).owe(0, 0), 0);
        }
        WhoeverHeard x = new WhoeverHeard();
        for (int p = 0; p < 8; p++) x.person(0, 0, 1, 199);
        x.promise(0, 1, 1, -1);
        for (int s = 0; s < 10; s++) x.say(0, 1);
        for (int s = 0; s < 10; s++) due("18: all eight", x.heard(s), 255);
        due("19: all ten are heard", x.nobody(), 0);
        x.move(7, 5);
        due("18: all but the last", x.heard(9), 127);
        x.move(0, 5);
        due("18: all but both ends", x.heard(0), 126);
    }

    private static void nobody() {
        due("19: no SAYINGS", peopleAlone().nobody(), 0);
        due("19: no PEOPLE", promisesAlone().nobody(), 1);
        WhoeverHeard x = new WhoeverHeard();
        x.promise(0, 1, 1, -1);
        for (int s = 0; s < 10; s++) x.say(0, 501);
        due("19: all ten, nobody there", x.nobody(), 1023);
        x.person(4, 0, 1, 199);
        due("19: all ten, one too far", x.nobody(), 1023);
        x.unsay();
        x.say(0, 1);
        due("19: all but the last", x.nobody(), 511);
        x.move(0, 5);
        due("19: the last alone", x.nobody(), 512);
    }

    private static void share(String e, int want) {
        WhoeverHeard x = one(0, 0, 1, "heard 50;share " + e + ";pain 0;");
        due("20: share " + e, x.owe(0, 0), want);
        due("21: all of share " + e, x.load(0, 0), want);
        due("21: nothing BEYOND of share " + e, x.load(0, 2), 0);
        due("22: DONE of share " + e, x.done(0), want);
        due("23: KEPT of share " + e, x.sum(0), want == 99 ? 1 : 0);
    }

    private static void shares() {
        share("0-9999", 0);
        share("0-1", 0);
        share("0", 0);
        share("1", 1);
        share("98", 98);
        share("99", 99);
        share("100", 99);
        share("9999", 99);
        share(MOST, 99);
        share(MOST + "+1", 0);
        share("-" + MOST + "-1", 0);
        share("-" + MOST + "-2", 99);
        share("not need", 0);
        share("98+(need=99)", 99);
        // If that is more than was owed of it: of several SAYINGS, the most.
        WhoeverHeard x = one(0, 0, 5, "heard 50;share loud;pain 0;");
        int[] louds = {5, 4, 5, 6, 6, 1, 9};
        int most = 5;
        for (int loud : louds) {
            x.say(0, loud);
            most = Math.max(most, loud);
            due("20: the most", x.owe(0, 0), most);
        }
        // many: 1 .. 8, CHILDREN too; not those who don't hear it CLEARLY.
        x = new WhoeverHeard();
        x.promise(0, 99, 1, -1);
        x.say(0, 1);
        x.force(Due.read(x, "heard 100-51*far;share many*10+base;pain 0;"));
        for (int p = 0; p < 8; p++) {
            x.person(p % 2 * 4, 0, 254 + p / 2 % 2, 199);
            due("20: many " + (p + 1), x.owe(0, 0), 10 * (p + 1));
        }
        due("20: base 1 if one can", x.owe(2, 0), 81);
        due("20: base 0 if one can't", x.owe(4, 0), 80);
        x.move(7, 1);
        due("20: one less", x.owe(0, 0), 70);
    }

    /** The NAMES that aren't told are 0, whatever was reckoned ahead. */
    private static void namesNotTold() {
        WhoeverHeard x = new WhoeverHeard();
        x.person(0, 590, 1, 999);
        x.person(0, 590, 1, 999);
        x.promise(0, 99, 1, -1);
        x.hush(0, 9);
        x.say(0, 409);
        x.force(Due.read(x, "heard 50+need+many;share 40+far+ear;pain 30+loud+far+many;"));
        for (int time = 0; time < 2; time++) {
            due("17: need, many are 0", x.hears(0, 0), 50);
            due("20: far, ear are 0", x.owe(0, 0), 40);
            due("21: loud, far, many are 0", x.load(0, 3), 30);
            due("23: loud, far, many are 0", x.sum(2), 60);
            due("17: need, many are 0", x.hears(0, 1), 50);
        }
        x.force(Due.read(x, "heard 30+loud+far*10+ear+base;share loud*10+base*4;pain ear*100+base*10;"));
        due("17: loud, far, ear, base", x.hears(0, 0), 30 + 9 + 10 + 9 + 9);
        due("20: loud, base", x.owe(0, 0), 94);
        due("21: ear, base", x.load(0, 3), 990);
    }

    private static void contrary() {
        WhoeverHeard x = new WhoeverHeard();
        x.person(0, 0, 1, 199);
        for (int q = 0; q < 8; q++) x.promise(0, 10, 1, q - 1);
        due("21: nothing struck out of nothing", x.load(0, 1), 0);
        x.say(7, 1);
        due("20: CONTRARY to what isn't owed", x.owe(0, 7), 10);
        due("21: nothing struck out", x.load(0, 1), 0);
        x.say(6, 1);
        due("20: like ones are both struck out", x.owe(0, 6) + x.owe(0, 7), 0);
        due("21: each once", x.load(0, 1), 10);
        x.say(5, 1);
        // 6 with 5 comes first: 7 stays.
        due("20: by numbers", x.owe(0, 7), 10);
        due("20: by numbers", x.owe(0, 5) + x.owe(0, 6), 0);
        for (int q = 0; q < 5; q++) x.say(q, 1);
        due("20: all eight, two by two", x.load(0, 0), 0);
        due("21: four times ten", x.load(0, 1), 40);
        // Struck out of 1 and of 0: 1 is CONTRARY to 0, 2 to 0, too.
        x = new WhoeverHeard();
        x.person(0, 0, 1, 199);
        x.person(4, 0, 1, 199);
        int[] needs = {10, 4, 7, 1};
        int[] against = {-1, 0, 0, 0};
        int[] want = {0, 0, 1, 1};
        for (int q = 0; q < 4; q++) x.promise(0, needs[q], 1, against[q]);
        for (int q = 0; q < 4; q++) x.say(q, 1);
        for (int q = 0; q < 4; q++) due("20: till nothing is left", x.owe(0, q), want[q]);
        due("21: 4 and 6", x.load(0, 1), 10);
        due("21: of a CHILD nothing", x.load(1, 1), 0);
    }

    private static void room(int room, int first, int second, int beyond) {
        WhoeverHeard x = new WhoeverHeard();
        x.person(0, 0, 1, 100 + room);
        x.promise(0, 50, 1, -1);
        x.promise(0, 40, 1, -1);
        x.say(1, 1);
        x.say(0, 1);
        due("20: of ROOM " + room, x.owe(0, 0), first);
        due("20: of ROOM " + room, x.owe(0, 1), second);
        due("21: all of ROOM " + room, x.load(0, 0), first + second);
        due("21: BEYOND ROOM " + room, x.load(0, 2), beyond);
        due("21: left of ROOM " + room, x.load(0, 4), room - first - second);
        due("21: struck out", x.load(0, 1), 0);
        due("23: as much as ROOM " + room, x.sum(3), first + second == room ? 1 : 0);
        due("23: KEPT by ROOM " + room, x.sum(0), (first == 50 ? 1 : 0) + (second == 40 ? 2 : 0));
    }

    private static void room() {
        room(0, 0, 0, 90);
        room(1, 1, 0, 89);
        room(49, 49, 0, 41);
        room(50, 50, 0, 40);
        room(51, 50, 1, 39);
        room(89, 50, 39, 1);
        room(90, 50, 40, 0);
        room(91, 50, 40, 0);
        room(99, 50, 40, 0);
        // Eight times 99: 99 stay, the rest is BEYOND.
        WhoeverHeard x = new WhoeverHeard();
        x.person(0, 0, 255, 999);
        for (int q = 0; q < 8; q++) x.promise(q, 99, 99, -1);
        for (int q = 0; q < 8; q++) x.say(q, 1);
        due("21: BEYOND, the most", x.load(0, 2), 693);
        due("21: all", x.load(0, 0), 99);
        due("21: pain", x.load(0, 3), 891);
        due("23: WORTH", x.sum(1), 99);
    }

    private static void pain(String e, int want) {
        for (int kind : new int[] {0, 4}) {
            WhoeverHeard x = one(kind, 0, 1, "heard 0;share 0;pain " + e + ";");
            x.person(0, 0, 1, 199);
            due("21: pain " + e, x.load(0, 3), want);
            due("23: all pain " + e, x.sum(2), 2 * want);
        }
    }

    private static void pain() {
        pain("0-9999", 0);
        pain("0-1", 0);
        pain("0", 0);
        pain("1", 1);
        pain("9998", 9998);
        pain("9999", 9999);
        pain("9999+1", 9999);
        pain("9999*9999", 9999);
        pain(MOST, 9999);
        pain(MOST + "+1", 0);
        pain("-" + MOST + "-2", 9999);
        WhoeverHeard x = new WhoeverHeard();
        for (int p = 0; p < 8; p++) x.person(4, 0, 0, 100);
        x.force(Due.read(x, "heard 0;share 0;pain 9999;"));
        due("23: pain of all eight", x.sum(2), 79992);
    }

    private static void done() {
        WhoeverHeard x = new WhoeverHeard();
        x.promise(7, 30, 1, -1);
        x.say(0, 1);
        due("22: nobody", x.done(0), 0);
        x.person(0, 0, 127, 199);
        due("22: who can't", x.done(0), 0);
        due("23: not KEPT", x.sum(0), 0);
        x.person(0, 0, 128, 129);
        due("22: one less", x.done(0), 29);
        due("23: one less isn't KEPT", x.sum(0), 0);
        due("23: no WORTH", x.sum(1), 0);
        x.person(0, 0, 255, 101);
        due("22: all that it NEEDS", x.done(0), 30);
        due("23: KEPT", x.sum(0), 1);
        x.person(0, 0, 255, 101);
        due("22: at most", x.done(0), 30);
        due("23: KEPT by more", x.sum(0), 1);
        x.unsay();
        due("22: nothing said", x.done(0), 0);
    }

    private static void sum() {
        WhoeverHeard x = new WhoeverHeard();
        for (int q = 0; q < 8; q++) x.promise(q, 1, 99, -1);
        for (int q = 0; q < 8; q++) x.say(q, 1);
        due("23: nobody, none KEPT", x.sum(0), 0);
        for (int p = 0; p < 8; p++) x.person(0, 0, 1 << p, 108);
        due("23: all eight KEPT", x.sum(0), 255);
        due("23: all WORTH", x.sum(1), 792);
        due("23: all pain", x.sum(2), 64);
        due("23: all eight as much as ROOM", x.sum(3), 255);
        x.unsay();
        due("23: all but the last KEPT", x.sum(0), 127);
        due("23: WORTH", x.sum(1), 693);
        due("23: nobody as much as ROOM", x.sum(3), 0);
    }

    private static WhoeverHeard said(int... hows) {
        WhoeverHeard x = new WhoeverHeard();
        x.promise(0, 1, 1, -1);
        for (int how : hows) x.say(0, how);
        return x;
    }

    private static int judged(int stride, int far, int... hows) {
        WhoeverHeard x = said(hows);
        x.stride(stride);
        x.far(0, 5, far);
        return x.judge();
    }

    private static void judge() {
        due("24: none", judged(0, 9), -1);
        due("24: one, however far", judged(0, 9, 559), -1);
        due("24: STRIDE 0, no way", judged(0, 0, 1, 501), -1);
        due("24: STRIDE 0, a way of 1", judged(0, 1, 1, 551), 1);
        due("24: STRIDE 0, the same PLACE", judged(0, 9, 501, 502, 551), -1);
        due("24: STRIDE 0, a MINUTE ahead, no way", judged(0, 0, 11, 1), 1);
        due("24: STRIDE 9, a MINUTE ahead, no way", judged(9, 0, 51, 541), 1);
        due("24: STRIDE 9, the same MINUTE, no way", judged(9, 0, 51, 551), -1);
        due("24: STRIDE 9, the same MINUTE, a way of 1", judged(9, 1, 51, 551), 1);
        due("24: STRIDE 9, a MINUTE, 9", judged(9, 9, 1, 511), -1);
        due("24: STRIDE 8, a MINUTE, 9", judged(8, 9, 1, 511), 1);
        due("24: STRIDE 2, five MINUTES, 9", judged(2, 9, 1, 551), -1);
        due("24: STRIDE 1, five MINUTES, 5", judged(1, 5, 1, 551), -1);
        due("24: STRIDE 1, five MINUTES, 6", judged(1, 6, 1, 551), 1);
        due("24: the first of several", judged(0, 9, 1, 1, 551, 1, 551), 2);
        due("24: the last of ten", judged(2, 9, 1, 1, 1, 1, 1, 1, 1, 1, 1, 501), 9);
        due("24: none of ten", judged(2, 9, 1, 1, 1, 1, 1, 1, 1, 1, 1, 1), -1);
    }

    private static void walk() {
        due("25: none", said().walk(), 0);
        due("25: one", said(559).walk(), 0);
        WhoeverHeard x = said(1, 501, 1, 501, 1, 501, 1, 501, 1, 501);
        due("25: nine times 5", x.walk(), 45);
        x.far(0, 5, 9);
        due("25: nine times 9", x.walk(), 81);
        x.far(5, 0, 0);
        due("25: no way", x.walk(), 0);
        x.unsay();
        due("25: still none", x.walk(), 0);
    }

    /** One at a HOME, who is bound by a TEXT to a PROMISE that NEEDS 10. */
    private static WhoeverHeard boundAt(int home, String text) {
        WhoeverHeard x = new WhoeverHeard();
        x.person(0, 100 * home, 1, 299);
        x.promise(0, 10, 0, -1);
        x.force(Due.read(x, text));
        return x;
    }

    private static void best() {
        due("26: nobody, what 0", promisesAlone().best(0, 0), -1);
        due("26: nobody, what 1", promisesAlone().best(0, 1), -1);
        // From PLACE 5, at PLACE 0: 40 + 8 * 12 - 75; NEEDS 99 is KEPT by ROOM 99, not by ROOM 98.
        for (int room = 98; room <= 99; room++) {
            WhoeverHeard x = new WhoeverHeard();
            x.person(0, 500, 1, 100 + room);
            x.promise(0, 99, 0, -1);
            due("26: how, ROOM " + room, x.best(0, 0), room == 99 ? 8 : -1);
            due("26: pain, ROOM " + room, x.best(0, 1), room == 99 ? 99 : -1);
            due("28: LOUD, ROOM " + room, x.loud(0, 0, 0), room == 99 ? 8 : -1);
        }
        WhoeverHeard x = Edge.full();
        x.force(0);
        due("26: behind all ten", x.best(7, 0) > 0 ? 1 : 0, 1);
        due("26: no pain at all", boundAt(0, "heard 50;share need;pain 0;").best(0, 1), 0);
        due("26: the first of all", boundAt(0, "heard 50;share need;pain 0;").best(0, 0), 1);
    }

    /** The first and the last way to say it: 1 and 559. */
    private static void bestLast() {
        for (int v = 0; v < 6; v += 5) {
            int loud = v == 0 ? 1 : 9;
            int how = 110 * v + loud;
            WhoeverHeard x = boundAt(v, "heard 100*(loud=" + loud + " and far=0 and base=9);share need;pain need;");
            x.hush(v, 9);
            due("26: alone " + how, x.best(0, 0), how);
            due("26: alone " + how, x.best(0, 1), 10);
            due("27: alone " + how, x.foe(0, 0, 0), how);
            due("27: alone " + how, x.foe(0, 0, 1), 10);
            for (int s = 0; s < 10; s++) x.say(0, 335);
            due("26: behind ten", x.best(0, 0), how);
            due("27: behind ten", x.foe(0, 0, 0), how);
            due("20: but not said", x.owe(0, 0), 0);
            // Of least pain, where all are heard: it alone costs 3 less.
            x = boundAt(v, "heard 100;share loud*10+many;pain 4+need-need-3*(ear=9);");
            due("26: of like ones the first", x.best(0, 0), 1);
            due("26: of like ones the first", x.best(0, 1), 4);
            x = boundAt(v, "heard 100;share (9+base*9-8*(loud=" + loud + "))*1;pain need;");
            due("26: least pain", x.best(0, 1), 10);
            due("26: least pain", x.best(0, 0), loud);
            due("27: most", x.foe(0, 0, 1), 18);
            due("27: most, the first", x.foe(0, 0, 0), v == 0 ? 2 : 1);
        }
    }

    private static void foe() {
        WhoeverHeard x = boundAt(0, "heard 0;share need;pain need;");
        due("27: nothing is owed: the first", x.foe(0, 0, 0), 1);
        due("27: nothing is owed", x.foe(0, 0, 1), 0);
        x = boundAt(3, "heard 100-far*51;share loud;pain 0;");
        due("27: the most LOUD there", x.foe(0, 0, 0), 309);
        due("27: not KEPT", x.foe(0, 0, 1), 9);
        due("26: not KEPT", x.best(0, 0), -1);
        x.say(0, 309);
        due("27: no more by any: the first", x.foe(0, 0, 0), 1);
        due("27: no more by any", x.foe(0, 0, 1), 9);
        // ROOM 0, and a CHILD: nothing.
        for (int kind = 0; kind < 5; kind += 4) {
            x = new WhoeverHeard();
            x.person(kind, 0, 1, kind == 0 ? 100 : 199);
            x.promise(0, 1, 0, -1);
            due("27: nothing to be owed", x.foe(0, 0, 0), 1);
            due("27: nothing to be owed", x.foe(0, 0, 1), 0);
        }
    }

    private static void loud() {
        for (int l = 1; l < 10; l++) {
            due("28: by " + l + " alone", boundAt(0, "heard 100*(loud=" + l + ");share need;pain 0;").loud(0, 0, 0), l);
            due("28: from " + l + " on", boundAt(0, "heard 100*(" + l + "-1<loud);share need;pain 0;").loud(0, 0, 0), l);
            due("28: up to " + l, boundAt(0, "heard 100*(loud<" + (l + 1) + ");share need;pain 0;").loud(0, 0, 0), 1);
        }
        due("28: none is LOUD 0", boundAt(0, "heard 100*(loud=0);share need;pain 0;").loud(0, 0, 0), -1);
        due("28: none is LOUD 10", boundAt(0, "heard 100*(9<loud);share need;pain 0;").loud(0, 0, 0), -1);
        due("28: nobody", promisesAlone().loud(0, 0, 0), -1);
    }

    /** At one PLACE, in one MINUTE alone it is heard, LOUD 9; nor does a MINUTE go over to the next one, or to a PLACE. */
    private static void loudOfMinutes() {
        for (int u = 0; u < 6; u++) {
            for (int t = 0; t < 6; t++) {
                WhoeverHeard x = boundAt(u, "heard 100*(far=0 and base=9 and (loud=9 or loud=0));share need;pain 0;");
                x.hush(t, 9);
                for (int v = 0; v < 6; v++) {
                    for (int m = 0; m < 6; m++) due("28: there alone", x.loud(0, v, m), v == u && m == t ? 9 : -1);
                }
            }
        }
    }

    private static void spare() {
        due("29: no SAYINGS", peopleAlone().spare(), 0);
        due("29: nothing KEPT", promisesAlone().spare(), 1);
        WhoeverHeard x = new WhoeverHeard();
        x.promise(0, 10, 0, -1);
        x.promise(1, 10, 0, -1);
        for (int s = 0; s < 10; s++) x.say(0, 1);
        due("29: nobody: all ten", x.spare(), 1023);
        x.person(0, 0, 1, 199);
        due("29: each alone of ten", x.spare(), 1023);
        x.move(0, 5);
        due("29: not heard: all ten", x.spare(), 1023);
        x.unsay();
        x.say(0, 501);
        due("29: all but the last", x.spare(), 511);
        x.move(0, -1);
        due("29: the last, too", x.spare(), 1023);
        x.unsay();
        x.say(1, 1);
        due("29: one who can't do it", x.spare(), 1023);
        x.person(0, 0, 2, 199);
        due("29: one who can", x.spare(), 511);
        for (int s = 0; s < 8; s++) x.unsay();
        x.say(1, 1);
        // SAYINGS 0, 1 of PROMISES 0, 0 were left; then 0, 0, 1.
        due("29: each of the first two", x.spare(), 3);
    }

    private static void even(int room, int other, int wantOne, int wantOther, int hardest) {
        WhoeverHeard x = new WhoeverHeard();
        x.person(0, 0, 1, 900 + room);
        x.person(0, 0, 1, 900 + other);
        x.promise(0, 99, 0, -1);
        x.say(0, 1);
        due("30: ROOM " + room, x.even(0, 0), wantOne);
        due("30: ROOM " + other, x.even(0, 1), wantOther);
        due("31: ROOM " + room + ", " + other, x.hardest(0), hardest);
    }

    private static void even() {
        even(99, 0, 99, 0, 891);
        even(0, 99, 0, 99, 891);
        even(98, 0, STATE, STATE, -1);
        even(98, 1, 98, 1, 882);
        even(1, 98, 1, 98, 882);
        even(50, 49, 50, 49, 450);
        even(49, 49, STATE, STATE, -1);
        even(0, 0, STATE, STATE, -1);
        even(99, 99, 50, 49, 450);
        // By eight alike: 12 each, and 3 of the first.
        WhoeverHeard x = new WhoeverHeard();
        for (int p = 0; p < 8; p++) x.person(0, 0, 1, 713);
        x.promise(0, 99, 0, -1);
        for (int s = 0; s < 9; s++) x.say(0, 501);
        due("30: heard of none", x.even(0, 0), STATE);
        x.say(0, 1);
        for (int p = 0; p < 8; p++) due("30: by eight", x.even(0, p), p < 3 ? 13 : 12);
        due("31: by eight", x.hardest(0), 91);
        x.promise(0, 1, 0, -1);
        due("30: not said", x.even(1, 0), STATE);
        due("31: not said", x.hardest(1), -1);
        x.unsay();
        x.say(1, 1);
        due("30: NEEDS 1", x.even(1, 0), 1);
        due("30: NEEDS 1", x.even(1, 1), 0);
        due("31: NEEDS 1", x.hardest(1), 7);
        due("30: the other isn't heard", x.even(0, 0), STATE);
    }

    private static void evenOfThose() {
        String[] why = {"a CHILD", "who can't", "who hears by 49", "ROOM 0"};
        for (int w = 0; w < 4; w++) {
            WhoeverHeard x = new WhoeverHeard();
            x.person(w == 0 ? 4 : 0, w == 2 ? 0 : 10, w == 1 ? 254 : 1, w == 3 ? 100 : 199);
            x.person(0, 10, 1, 299);
            x.person(w == 0 ? 4 : 0, w == 2 ? 0 : 10, w == 1 ? 254 : 1, w == 3 ? 100 : 199);
            x.promise(0, 3, 0, -1);
            x.say(0, 1);
            x.force(Due.read(x, "heard 49+ear;share 0;pain 0;"));
            int[] want = {0, 3, 0};
            for (int p = 0; p < 3; p++) due("30: not " + why[w], x.even(0, p), want[p]);
            due("31: not " + why[w], x.hardest(0), 6);
        }
    }

    private static void flights() {
        due("32: nothing said", peopleAlone().flee(0, 0), 0);
        due("32: nothing said", peopleAlone().flee(0, 1), 0);
        due("33: nothing said", peopleAlone().send(0, 0), 0);
        due("33: nothing said", peopleAlone().send(0, 1), 0);
        for (int u = 0; u < 6; u++) {
            WhoeverHeard x = boundAt(5 - u, "heard 100*(far=0);share need;pain 0;");
            for (int v = 0; v < 6; v++) for (int w = 0; w < v; w++) x.far(v, w, 1);
            x.say(0, 100 * u + 1);
            due("33: there alone", x.send(0, 0), u);
            due("33: there alone", x.send(0, 1), 10);
            due("32: the first other one", x.flee(0, 0), u == 0 ? 1 : 0);
            due("32: the first other one", x.flee(0, 1), 0);
            x.unsay();
            for (int v = 0; v < 6; v++) if (v != u) x.say(0, 100 * v + 1);
            due("32: there alone", x.flee(0, 0), u);
            due("32: there alone", x.flee(0, 1), 0);
            due("33: the first other one", x.send(0, 0), u == 0 ? 1 : 0);
            x.say(0, 100 * u + 1);
            due("32: everywhere: the first", x.flee(0, 0), 0);
            due("32: everywhere", x.flee(0, 1), 10);
            due("33: everywhere: the first", x.send(0, 0), 0);
            due("33: everywhere", x.send(0, 1), 10);
            due("10: nobody MOVED", x.move(0, -1), -1);
        }
    }

    private static WhoeverHeard crowd() {
        WhoeverHeard x = new WhoeverHeard();
        for (int p = 0; p < 8; p++) x.person(0, 0, 1, 199);
        x.promise(0, 10, 0, -1);
        x.say(0, 1);
        return x;
    }

    private static void rest() {
        for (int most = 0; most <= 6; most++) {
            WhoeverHeard x = crowd();
            due("34: at most " + most, x.rest(most), most);
            due("34: so many are gone", Integer.bitCount(x.heard(0)), 8 - most);
            due("34: in turn", x.heard(0), 255 << most & 255);
            for (int p = 0; p < 8; p++) due("34: had MOVED", x.move(p, -1), p < most ? 1 : -1);
        }
        WhoeverHeard x = crowd();
        due("34: six", x.rest(6), 6);
        due("34: the last two", x.rest(6), 2);
        due("34: none", x.rest(6), 0);
        // One by one as much as is owed: owes no less by it.
        Edge.still("34: nothing said", KeptEdgeTest::peopleAlone, y -> y.rest(6), 0);
        Edge.still("34: nobody", KeptEdgeTest::promisesAlone, y -> y.rest(6), 0);
        x = boundAt(5, "heard 100;share need;pain 0;");
        x.say(0, 1);
        due("34: no less anywhere", x.rest(6), 0);
        due("34: didn't MOVE", x.move(0, 5), -1);
        due("34: no less anywhere", x.rest(6), 0);
        due("34: stays where it MOVED", x.move(0, -1), 5);
    }

    private static final Edge.Ask[] ASKS = {x -> x.hears(0, 0), x -> x.heard(2), x -> x.nobody(), x -> x.owe(0, 0),
        x -> x.load(1, 3), x -> x.done(0), x -> x.sum(2), x -> x.judge(), x -> x.walk(), x -> x.best(0, 1),
        x -> x.foe(1, 1, 1), x -> x.loud(0, 2, 2), x -> x.spare(), x -> x.even(0, 0), x -> x.even(2, 1),
        x -> x.hardest(0), x -> x.flee(1, 1), x -> x.send(1, 1), x -> x.chance(0, 0), x -> x.lost(0), x -> x.lost(2),
        x -> x.laws(2), x -> x.witness(0), x -> x.alibi(1, 0), x -> x.drawn(7, 2), x -> x.odds(0, 7, 9, 0)};

    /** What was reckoned for one call doesn't stand when another one is asked. */
    private static void freshRows() {
        for (int i = 0; i < ASKS.length; i++) {
            WhoeverHeard x = Edge.some();
            changed(x);
            long want = ASKS[i].of(x);
            for (Edge.Ask ahead : ASKS) {
                WhoeverHeard y = Edge.some();
                ahead.of(y);
                changed(y);
                due("17: ask " + i + ", asked ahead of a change", ASKS[i].of(y), want);
                ahead.of(y);
                due("17: ask " + i + ", asked ahead of it", ASKS[i].of(y), want);
            }
        }
    }

    /** What was never said counts nowhere, whatever was asked while it stood. */
    private static void unsaidRows() {
        for (int left = 3; left >= 0; left--) {
            for (int q = 0; q < 3; q++) {
                WhoeverHeard x = Edge.some();
                WhoeverHeard y = Edge.some();
                for (int s = 3; s > left; s--) due("15: how many", x.unsay(), y.unsay());
                y.say(q, 239);
                for (Edge.Ask ask : ASKS) ask.of(y);
                due("15: as many as ahead", y.unsay(), left);
                for (int i = 0; i < ASKS.length; i++) {
                    due("15: ask " + i + " of " + left + " SAYINGS", ASKS[i].of(y), ASKS[i].of(x));
                }
            }
        }
        WhoeverHeard x = peopleAlone();
        x.promise(0, 5, 0, -1);
        x.say(0, 1);
        due("30: while it stands", x.even(0, 0), 5);
        x.unsay();
        due("30: never said", x.even(0, 0), STATE);
        due("31: never said", x.hardest(0), -1);
        due("35: never said", x.chance(0, 0), 0);
        due("36: never said", x.lost(0), 1000000);
        due("40: never said", x.drawn(0, 2), 0);
        due("33: never said", x.send(0, 1), 0);
        due("26: once more", x.best(0, 1), 5);
        due("30: what was asked is not said", x.even(0, 0), STATE);
        due("35: what was asked is not said", x.chance(0, 0), 0);
    }

    private static void changed(WhoeverHeard x) {
        x.person(0, 232, 7, 355);
        x.move(0, 4);
        x.move(1, 3);
        x.unsay();
        x.say(0, 332);
        x.say(0, 409);
        x.far(3, 2, 9);
        x.hush(3, 1);
        x.sheet(0, 0, 4);
        x.cell(0, 0, 15);
        x.force(0);
    }
}
