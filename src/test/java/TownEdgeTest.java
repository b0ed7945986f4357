/** Promises 1 to 16, at their edges. */
public final class TownEdgeTest {
    private static final int NONE = -1, BAD = -2, STATE = -3, FULL = -4, NO_SUCH = -5, NOT_SO = -7;
    private static final int MIN = Edge.MIN, MAX = Edge.MAX;
    private static final String REST = ";share need;pain need;";

    public static void main(String[] args) {
        newObject();
        firstLaw();
        far();
        farFromItself();
        hush();
        stride();
        count();
        feed();
        feedToTheBrim();
        text();
        longTexts();
        textFull();
        faultPlaces();
        wrapping();
        force();
        person();
        personFull();
        move();
        told();
        kinds();
        promise();
        promiseAgainst();
        promised();
        say();
        saySome();
        unsay();
        said();
        Due.end();
    }

    private static void due(String call, long got, long want) {
        Due.due(call, got, want);
    }

    private static void newObject() {
        WhoeverHeard x = new WhoeverHeard();
        due("1: STRIDE", x.count(0), 2);
        for (int what = 1; what <= 3; what++) due("1: no PEOPLE, PROMISES, SAYINGS", x.count(what), 0);
        due("1: one TEXT", x.count(4), 1);
        due("1: THE LAW", x.count(5), 0);
        due("1: THE TAPE", x.count(6), 0);
        for (int u = 0; u < 6; u++) {
            for (int v = 0; v < 6; v++) due("1: HOW FAR", x.far(u, v, u < v ? v - u : u - v), u == v ? -1 : Math.abs(u - v));
        }
        for (int t = 0; t < 6; t++) due("1: NOISE", x.hush(t, 0), 0);
        for (int s = 0; s < 4; s++) due("1: all SHEETS are missing", x.cell(s, 0, 0), -11);
        due("1: no IMAGE", x.back(), STATE);
        due("1: nobody", x.nobody(), 0);
        for (int what = 0; what < 4; what++) due("1: sum", x.sum(what), 0);
        due("1: judge", x.judge(), -1);
        due("1: walk", x.walk(), 0);
        due("1: spare", x.spare(), 0);
        due("1: rest", x.rest(6), 0);
        due("1: laws", x.laws(0), 1);
        for (int i = 0; i < 16; i++) due("1: taken", x.taken(i, i % 7), -11);
        due("1: THE TAPE is empty: its size is the FAULT's place", x.text(), -100);
        due("1: one object is not the other", new WhoeverHeard().person(0, 0, 0, 100), 0);
        due("1: nor the other the one", x.count(1), 0);
    }

    private static void firstLaw() {
        WhoeverHeard x = new WhoeverHeard();
        x.person(0, 490, 1, 999);
        x.promise(0, 50, 1, -1);
        x.say(0, 109);
        x.hush(0, 9);
        // 40 + 9 * 12 - 3 * 15 + 9 * 3 = 130; then 40 + 12 - 45 + 27 = 34.
        due("1: heard of TEXT 0", x.hears(0, 0), 100);
        x.say(0, 101);
        due("1: heard of TEXT 0", x.hears(1, 0), 34);
        due("1: share of TEXT 0", x.owe(0, 0), 50);
        due("1: pain of TEXT 0", x.load(0, 3), 450);
    }

    private static void far() {
        for (int v : new int[] {1, 4}) {
            Edge.range("2: u", Edge::some, (x, u) -> x.far(u, v, 3), 0, 5, NONE);
            Edge.range("2: v", Edge::some, (x, u) -> x.far(v, u, 3), 0, 5, NONE);
        }
        Edge.range("2: d", Edge::some, (x, d) -> x.far(1, 4, d), 0, 9, BAD);
        Edge.range("2: d the other way", Edge::some, (x, d) -> x.far(5, 0, d), 0, 9, BAD);
        for (int u = 0; u < 6; u++) {
            int v = u;
            Edge.still("2: alike", Edge::some, x -> x.far(v, v, 0), NONE);
            Edge.still("2: alike ahead of d", Edge::some, x -> x.far(v, v, 10), NONE);
        }
        Edge.still("2: u ahead of d", Edge::some, x -> x.far(6, 0, 10), NONE);
        Edge.still("2: v ahead of d", Edge::some, x -> x.far(0, -1, -1), NONE);
        Edge.still("2: both alike outside", Edge::some, x -> x.far(6, 6, 0), NONE);
        WhoeverHeard x = new WhoeverHeard();
        due("2: 9", x.far(0, 5, 9), 5);
        due("2: 0", x.far(5, 0, 0), 9);
        due("2: was 0, either way", x.far(0, 5, 5), 0);
        due("2: only of these two", x.far(0, 4, 4), 4);
        due("2: only of these two", x.far(1, 5, 4), 4);
    }

    private static void farFromItself() {
        WhoeverHeard x = new WhoeverHeard();
        for (int u = 0; u < 6; u++) {
            for (int v = 0; v < u; v++) x.far(u, v, 9);
            x.person(0, 100 * u, 1, 199);
        }
        x.promise(0, 1, 1, -1);
        for (int u = 0; u < 6; u++) x.say(0, 100 * u + 1);
        for (int u = 0; u < 6; u++) due("2: a PLACE from itself", x.heard(u), 1 << u);
        for (int u = 0; u < 6; u++) due("2: a PLACE from itself", x.hears(u, u), 52);
    }

    private static void hush() {
        Edge.range("3: t", Edge::some, (x, t) -> x.hush(t, 5), 0, 5, NONE);
        Edge.range("3: v", Edge::some, (x, v) -> x.hush(3, v), 0, 9, BAD);
        Edge.still("3: t ahead of v", Edge::some, x -> x.hush(6, 10), NONE);
        Edge.still("3: t ahead of v", Edge::some, x -> x.hush(-1, -1), NONE);
        WhoeverHeard x = new WhoeverHeard();
        due("3: 9", x.hush(5, 9), 0);
        due("3: 0", x.hush(5, 0), 9);
        due("3: was 0", x.hush(5, 1), 0);
        due("3: only of this one", x.hush(4, 0), 0);
    }

    private static void stride() {
        Edge.range("4: v", Edge::some, (x, v) -> x.stride(v), 0, 9, BAD);
        WhoeverHeard x = new WhoeverHeard();
        due("4: at first", x.stride(9), 2);
        due("4: 9", x.stride(0), 9);
        due("4: 0", x.stride(2), 0);
    }

    private static void count() {
        Edge.range("5: what", Edge::some, (x, what) -> x.count(what), 0, 6, BAD);
        int[] some = {4, 3, 3, 3, 2, 1, 3};
        int[] full = {2, 8, 8, 10, 6, 5, 160};
        for (int what = 0; what <= 6; what++) {
            int w = what;
            Edge.still("5: of some", Edge::some, x -> x.count(w), some[w]);
            Edge.still("5: of as many as can be", Edge::full, x -> x.count(w), full[w]);
        }
    }

    private static void feed() {
        Edge.range("6: n", Edge::some, (x, n) -> x.feed(n, 1, 2, 3, 4, 5), 1, 5, BAD);
        // Each of the five is looked at, also if it does not come.
        for (int n : new int[] {1, 5}) {
            Edge.range("6: a", Edge::some, (x, v) -> x.feed(n, v, 2, 3, 4, 5), 0, 255, BAD);
            Edge.range("6: b", Edge::some, (x, v) -> x.feed(n, 1, v, 3, 4, 5), 0, 255, BAD);
            Edge.range("6: c", Edge::some, (x, v) -> x.feed(n, 1, 2, v, 4, 5), 0, 255, BAD);
            Edge.range("6: d", Edge::some, (x, v) -> x.feed(n, 1, 2, 3, v, 5), 0, 255, BAD);
            Edge.range("6: e", Edge::some, (x, v) -> x.feed(n, 1, 2, 3, 4, v), 0, 255, BAD);
        }
        for (int n = 1; n <= 5; n++) due("6: how many it has", new WhoeverHeard().feed(n, 1, 2, 3, 4, 5), n);
    }

    private static WhoeverHeard fed(int bytes) {
        WhoeverHeard x = new WhoeverHeard();
        for (int i = 0; i < bytes; i++) x.feed(1, ' ', 0, 0, 0, 0);
        return x;
    }

    private static void feedToTheBrim() {
        for (int n = 1; n <= 5; n++) {
            int all = n;
            due("6: the last ones", fed(160 - n).feed(n, 1, 2, 3, 4, 5), 160);
            Edge.still("6: one too many", () -> fed(161 - all), x -> x.feed(all, 1, 2, 3, 4, 5), FULL);
            Edge.still("6: no room", Edge::full, x -> x.feed(all, 1, 2, 3, 4, 5), FULL);
        }
        Edge.still("6: n ahead of FULL", Edge::full, x -> x.feed(0, 1, 2, 3, 4, 5), BAD);
        Edge.still("6: n ahead of FULL", Edge::full, x -> x.feed(6, 1, 2, 3, 4, 5), BAD);
        Edge.still("6: n most, ahead of FULL", Edge::full, x -> x.feed(MAX, 1, 2, 3, 4, 5), BAD);
        Edge.still("6: a ahead of FULL", Edge::full, x -> x.feed(1, 256, 2, 3, 4, 5), BAD);
        Edge.still("6: b ahead of FULL", Edge::full, x -> x.feed(1, 1, -1, 3, 4, 5), BAD);
        Edge.still("6: c ahead of FULL", Edge::full, x -> x.feed(1, 1, 2, 256, 4, 5), BAD);
        Edge.still("6: d ahead of FULL", Edge::full, x -> x.feed(1, 1, 2, 3, -1, 5), BAD);
        Edge.still("6: e ahead of FULL", Edge::full, x -> x.feed(1, 1, 2, 3, 4, 256), BAD);
        WhoeverHeard x = fed(160);
        due("6: all are blanks", x.text(), -260);
        due("6: room again", x.feed(5, 1, 2, 3, 4, 5), 5);
        x = new WhoeverHeard();
        x.feed(2, 'h', 'e', 'a', 'r', 'd');
        x.feed(3, 'a', 'r', 'd', '?', '?');
        x.feed(1, ';', 1, 1, 1, 1);
        due("6: only n of the five come, one by one", x.text(), -105);
    }

    private static void text() {
        WhoeverHeard x = new WhoeverHeard();
        for (int t = 1; t <= 5; t++) {
            due("7: a FAULT is no TEXT", Due.read(x, "heard 1; share 2; pain 3"), -124);
            due("7: THE TAPE is empty by a FAULT", x.count(6), 0);
            due("7: its number", Due.read(x, "heard 5" + t + REST), t);
            due("7: THE TAPE is empty", x.count(6), 0);
            due("7: how many", x.count(4), t + 1);
            due("7: THE LAW stays", x.count(5), 0);
        }
        due("7: FULL, by an empty one, too", x.text(), FULL);
        x.person(0, 0, 1, 199);
        x.promise(0, 1, 1, -1);
        x.say(0, 9);
        for (int t = 1; t <= 5; t++) {
            x.force(t);
            due("7: each is its own", x.hears(0, 0), 50 + t);
        }
    }

    /** Six TEXTS, each as long as THE TAPE, and as long ones with a FAULT between. */
    private static void longTexts() {
        WhoeverHeard x = new WhoeverHeard();
        x.person(0, 0, 1, 199);
        x.promise(0, 1, 1, -1);
        x.say(0, 2);
        for (int t = 1; t <= 5; t++) {
            String ones = "+1".repeat(65);
            due("7: a long FAULT", Due.read(x, "heard 1" + ones + ";;"), -100 - 138);
            due("7: a long FAULT", Due.read(x, "heard " + "(".repeat(5) + "loud" + ones + ")".repeat(6)), -100 - 150);
            String text = "heard " + t + "+loud*(0" + "+1".repeat(26) + ");share 1" + "+loud".repeat(6) + ";pain " + t;
            due("7: a long TEXT", Due.read(x, text + "+need".repeat((159 - text.length()) / 5) + ";"), t);
        }
        for (int t = 5; t > 0; t--) {
            x.force(t);
            due("7: a long heard", x.hears(0, 0), t + 52);
            due("7: a long share", x.owe(0, 0), 13);
            int needs = (159 - ("heard 1+loud*(0" + "+1".repeat(26) + ");share 1" + "+loud".repeat(6) + ";pain 1").length()) / 5;
            due("7: a long pain", x.load(0, 3), t + 13 * needs);
        }
        x.force(0);
        due("7: TEXT 0 stays", x.hears(0, 0), 64);
    }

    private static WhoeverHeard fullOf(String tape) {
        WhoeverHeard x = new WhoeverHeard();
        for (int t = 1; t < 6; t++) Due.read(x, "heard 1" + REST);
        Due.feed(x, tape);
        return x;
    }

    private static void textFull() {
        for (String tape : new String[] {"", "?", "heard 1; share 1; pain 1;", "heard", " ".repeat(160)}) {
            Edge.still("7: FULL, and THE TAPE stays", () -> fullOf(tape), WhoeverHeard::text, FULL);
            Edge.still("7: how long", () -> fullOf(tape), x -> x.count(6), tape.length());
        }
        WhoeverHeard x = fullOf("?");
        due("7: FULL ahead of the FAULT", x.text(), FULL);
        due("7: FULL again", x.text(), FULL);
        due("7: what comes then comes behind it", x.feed(2, 1, 2, 3, 4, 5), 3);
    }

    private static void fault(String text, int want) {
        Edge.Make make = () -> {
            WhoeverHeard x = new WhoeverHeard();
            Due.feed(x, text);
            return x;
        };
        WhoeverHeard x = make.make();
        due("7: '" + text + "'", x.text(), want);
        due("7: how many TEXTS", x.count(4), want > 0 ? 2 : 1);
        due("7: how many bytes", x.count(6), 0);
        due("7: again, of an empty tape", x.text(), -100);
    }

    private static String padded(String text, int size) {
        return text + " ".repeat(size - text.length());
    }

    private static void faultPlaces() {
        String good = "heard 1;share 1;pain 1;";
        fault(padded(good, 160), 1);
        fault(padded(good, 159) + ";", -259);
        fault(padded(good, 159) + "\t", -259);
        fault(padded("heard 1;share 1;pain 1", 159) + ";", 1);
        fault(padded("heard 1;share 1;pain 1", 160), -260);
        fault(padded("heard 1;share 1;pain", 159) + "1", -260);
        fault(padded("heard 1;share 1;", 155) + "pains", -255);
        fault(padded("heard 1;share 1;", 156) + "pain", -260);
        fault("?" + good, -100);
        fault("heardshare", -100);
        fault("heard9999" + REST, 1);
        fault("heard09999" + REST, -105);
        fault("heard1and2or3" + REST, 1);
        fault("heard 1and2or 3" + REST, 1);
        fault("heard 1 and2or3and" + REST, -118);
        fault("heard loudfar" + REST, -106);
        fault("heard -1" + REST, 1);
        fault("heard 1<2" + REST, 1);
        fault("heard 1<=2" + REST, -108);
        fault("heard 1==2" + REST, -108);
        fault("heard not" + REST, -109);
        fault("heard 1 not 2" + REST, -108);
        fault("heard (1" + REST, -108);
        fault("heard 1)" + REST, -107);
        fault("heard" + "(".repeat(5) + "1" + ")".repeat(5) + REST, 1);
        fault("heard" + "(".repeat(6) + "1" + ")".repeat(6) + REST, -110);
        fault("heard" + "-".repeat(5) + "1" + REST, 1);
        fault("heard" + "-".repeat(6) + "1" + REST, -110);
        fault("heard 1" + "-".repeat(6) + "1" + REST, 1);
        fault("heard 1" + "-".repeat(7) + "1" + REST, -113);
        fault("heard" + " not".repeat(5) + " 1" + REST, 1);
        fault("heard" + " not".repeat(6) + " 1" + REST, -126);
        fault("heard not(-(not 1))" + REST, 1);
        fault("heard not(-(not(1)))" + REST, -115);
        fault("heard not(-(not -1))" + REST, -116);
        fault("heard not(-(not not 1))" + REST, -116);
        // What is closed, and what a not and a - belong to, is open no more.
        fault("heard(1)+(((((1)))))" + REST, 1);
        fault("heard-1+-----1" + REST, 1);
        fault("heard not 1 and not not not not not 1" + REST, 1);
        fault("heard not 1 = ----1" + REST, 1);
        fault("heard not 1 = -----1" + REST, -118);
        fault("heard 1 = -----1" + REST, 1);
        fault("heard(not 1)or(((((1)))))" + REST, 1);
        fault("heard((((1)*(1))))*(((((1)))))" + REST, 1);
        fault("heard 1;share(((((1)))));pain-----1;", 1);
        // Ahead of what is open, a TOKEN that can stand nowhere has no say.
        fault("heard((((((?", -110);
        fault("heard(((((?", -110);
        fault("heard 12345 ?" + REST, -106);
    }

    /** MAX is 9999 * 9999 * 21 + 9999 * 4790 + 8416. */
    private static void wrapping() {
        String most = "(9999*9999*21+9999*4790+8416)";
        String least = "(-" + most + "-1)";
        String[] is = {most + " < 0", "0", "0 < " + most + " + 1", "0", least + " < 0", "1", "0 < " + least + " - 1", "1",
            "- " + least + " = " + least, "1", most + " + 1 = " + least, "1", least + " - 1 = " + most, "1",
            least + " * 2 = 0", "1", most + " * 2 = - 2", "1", most + " < " + least, "0", least + " < " + most, "1",
            most + " + 1", "0", most, "100", least, "0", least + " - 1", "100"};
        for (int i = 0; i < is.length; i += 2) {
            String e = is[i];
            WhoeverHeard x = new WhoeverHeard();
            x.person(0, 0, 1, 199);
            x.promise(0, 1, 1, -1);
            x.say(0, 1);
            x.force(Due.read(x, "heard" + e + REST));
            due("7: " + e, x.hears(0, 0), Integer.parseInt(is[i + 1]));
        }
    }

    private static void force() {
        Edge.range("8: t", Edge::some, (x, t) -> x.force(t), 0, 1, BAD);
        Edge.range("8: t of six", Edge::full, (x, t) -> x.force(t), 0, 5, BAD);
        Edge.range("8: t of one", WhoeverHeard::new, (x, t) -> x.force(t), 0, 0, BAD);
        Edge.still("8: the one that is", Edge::full, x -> x.force(5), 5);
        WhoeverHeard x = Edge.full();
        due("8: which was", x.force(0), 5);
        due("8: which was", x.force(1), 0);
        due("8: THE LAW", x.count(5), 1);
    }

    private static void person() {
        for (Edge.Make make : new Edge.Make[] {WhoeverHeard::new, Edge::some, Edge::full}) {
            Edge.range("9: kind", make, (x, v) -> x.person(v, 0, 0, 100), 0, 5, BAD);
            Edge.range("9: what", make, (x, v) -> x.person(0, v, 0, 100), 0, 599, BAD);
            Edge.range("9: works", make, (x, v) -> x.person(0, 0, v, 100), 0, 255, BAD);
            Edge.range("9: load", make, (x, v) -> x.person(0, 0, 0, v), 100, 999, BAD);
        }
        int[] whats = {0, 9, 10, 99, 100, 199, 500, 509, 590, 599};
        int[] loads = {100, 199, 200, 299, 900, 999};
        for (int what : whats) {
            for (int load : loads) {
                WhoeverHeard x = new WhoeverHeard();
                due("9: the number", x.person(5, what, load % 256, load), 0);
                due("9: HOME", x.told(0, 1), what / 100);
                due("9: EAR", x.told(0, 2), what % 100 / 10);
                due("9: MORE", x.told(0, 3), what % 10);
                due("9: WORKS", x.told(0, 4), load % 256);
                due("9: PAINS", x.told(0, 5), load / 100);
                due("9: ROOM", x.told(0, 6), load % 100);
                due("9: didn't MOVE", x.move(0, -1), -1);
            }
        }
    }

    private static void personFull() {
        WhoeverHeard x = new WhoeverHeard();
        for (int p = 0; p < 8; p++) due("9: the number", x.person(p % 6, 0, 0, 100), p);
        due("9: FULL", x.person(0, 0, 0, 100), FULL);
        Edge.still("9: FULL", Edge::full, y -> y.person(0, 0, 0, 100), FULL);
        Edge.still("9: FULL", Edge::full, y -> y.person(5, 599, 255, 999), FULL);
    }

    private static void move() {
        Edge.range("10: u", Edge::some, (x, u) -> x.move(0, u), -1, 5, NOT_SO);
        Edge.range("10: p", Edge::some, (x, p) -> x.move(p, 1), 0, 2, NO_SUCH);
        Edge.range("10: p of eight", Edge::full, (x, p) -> x.move(p, 1), 0, 7, NO_SUCH);
        Edge.none("10: nobody", WhoeverHeard::new, (x, p) -> x.move(p, 1), NO_SUCH);
        Edge.still("10: p ahead of u", Edge::some, x -> x.move(3, 6), NO_SUCH);
        Edge.still("10: p ahead of u", Edge::some, x -> x.move(-1, -2), NO_SUCH);
        WhoeverHeard x = Edge.full();
        due("10: had not", x.move(7, 5), -1);
        due("10: had", x.move(7, 0), 5);
        due("10: had 0", x.move(7, -1), 0);
        due("10: had not", x.move(7, -1), -1);
        due("10: at HOME", x.told(7, 7), 1);
    }

    private static void told() {
        Edge.range("11: what", Edge::some, (x, what) -> x.told(0, what), 0, 12, NOT_SO);
        Edge.range("11: what of a WALKER", Edge::some, (x, what) -> x.told(1, what), 0, 12, NOT_SO);
        for (int w : new int[] {0, 6, 7, 12}) {
            Edge.range("11: p", Edge::some, (x, p) -> x.told(p, w), 0, 2, NO_SUCH);
            Edge.range("11: p of eight", Edge::full, (x, p) -> x.told(p, w), 0, 7, NO_SUCH);
            Edge.none("11: nobody", WhoeverHeard::new, (x, p) -> x.told(p, w), NO_SUCH);
        }
        Edge.still("11: p ahead of what", Edge::some, x -> x.told(3, 13), NO_SUCH);
        Edge.still("11: p ahead of what", Edge::some, x -> x.told(-1, -1), NO_SUCH);
    }

    /** Where one of a KIND is in each MINUTE, from a HOME, by MORE. */
    private static void kind(int kind, int home, int more, String want) {
        WhoeverHeard x = new WhoeverHeard();
        x.person(kind, 100 * home + more, 0, 100);
        for (int t = 0; t < 6; t++) {
            due("11: KIND " + kind + " MORE " + more + " MINUTE " + t, x.told(0, 7 + t), want.charAt(t) - '0');
        }
        // MOVED, it starts there; HOME doesn't matter.
        WhoeverHeard y = new WhoeverHeard();
        y.person(kind, 100 * (5 - home) + more, 0, 100);
        y.move(0, home);
        for (int t = 0; t < 6; t++) due("11: MOVED", y.told(0, 7 + t), want.charAt(t) - '0');
        due("11: HOME is told", y.told(0, 1), 5 - home);
    }

    private static void kinds() {
        for (int more = 0; more < 10; more++) {
            kind(0, 5, more, "555555");
            kind(2, 4, more, "444444");
            kind(4, 0, more, "000000");
        }
        for (int kind : new int[] {1, 5}) {
            kind(kind, 0, 0, "012345");
            kind(kind, 0, 1, "012345");
            kind(kind, 5, 0, "501234");
            kind(kind, 5, 1, "501234");
            kind(kind, 5, 2, "550011");
            kind(kind, 4, 2, "445500");
            kind(kind, 5, 3, "555000");
            kind(kind, 2, 4, "222233");
            kind(kind, 5, 5, "555550");
            kind(kind, 5, 6, "555555");
            kind(kind, 3, 9, "333333");
        }
        kind(3, 5, 0, "500034");
        kind(3, 5, 1, "500034");
        kind(3, 5, 2, "550011");
        kind(3, 4, 2, "440000");
        kind(3, 1, 5, "110012");
        kind(3, 1, 9, "110011");
    }

    private static void promise() {
        for (Edge.Make make : new Edge.Make[] {WhoeverHeard::new, Edge::some, Edge::full}) {
            Edge.range("12: w", make, (x, v) -> x.promise(v, 1, 0, -1), 0, 7, BAD);
            Edge.range("12: n", make, (x, v) -> x.promise(0, v, 0, -1), 1, 99, BAD);
            Edge.range("12: v", make, (x, v) -> x.promise(0, 1, v, -1), 0, 99, BAD);
        }
        Edge.range("12: against", WhoeverHeard::new, (x, v) -> x.promise(0, 1, 0, v), -1, -1, BAD);
        Edge.range("12: against of three", Edge::some, (x, v) -> x.promise(0, 1, 0, v), -1, 2, BAD);
        Edge.range("12: against of eight", Edge::full, (x, v) -> x.promise(0, 1, 0, v), -1, 7, BAD);
        Edge.still("12: FULL", Edge::full, x -> x.promise(0, 1, 0, -1), FULL);
        Edge.still("12: FULL", Edge::full, x -> x.promise(7, 99, 99, 7), FULL);
    }

    private static void promiseAgainst() {
        WhoeverHeard x = new WhoeverHeard();
        for (int q = 0; q < 8; q++) {
            due("12: CONTRARY to itself", x.promise(q, 99, 0, q), BAD);
            due("12: its number", x.promise(q, q == 0 ? 1 : 99, q == 7 ? 99 : 0, q - 1), q);
            due("12: how many", x.count(2), q + 1);
        }
        due("12: FULL", x.promise(0, 1, 0, 7), FULL);
        due("12: not FULL, but BAD", x.promise(0, 1, 0, 8), BAD);
        for (int q = 0; q < 8; q++) {
            int[] want = {q, q == 0 ? 1 : 99, q == 7 ? 99 : 0, q - 1};
            for (int what = 0; what < 4; what++) due("13: promised", x.promised(q, what), want[what]);
        }
    }

    private static void promised() {
        Edge.range("13: what", Edge::some, (x, what) -> x.promised(0, what), 0, 3, NOT_SO);
        for (int w = 0; w < 4; w++) {
            int what = w;
            Edge.range("13: q", Edge::some, (x, q) -> x.promised(q, what), 0, 2, NO_SUCH);
            Edge.range("13: q of eight", Edge::full, (x, q) -> x.promised(q, what), 0, 7, NO_SUCH);
            Edge.none("13: none", WhoeverHeard::new, (x, q) -> x.promised(q, what), NO_SUCH);
        }
        Edge.still("13: q ahead of what", Edge::some, x -> x.promised(3, 4), NO_SUCH);
        Edge.still("13: q ahead of what", Edge::some, x -> x.promised(-1, -1), NO_SUCH);
    }

    private static void say() {
        for (Edge.Make make : new Edge.Make[] {Edge::some, Edge::full}) {
            Edge.range("14: how", make, (x, v) -> x.say(0, v), 1, 559, BAD);
            for (int v : new int[] {60, 61, 69, 70, 99, 160, 561, 599, 600, 601, 10, 50, 100, 550}) {
                Edge.still("14: how " + v, make, x -> x.say(0, v), BAD);
            }
        }
        Edge.range("14: q", Edge::some, (x, q) -> x.say(q, 1), 0, 2, BAD);
        Edge.range("14: q of eight", Edge::full, (x, q) -> x.say(q, 1), 0, 7, BAD);
        Edge.none("14: no PROMISE", WhoeverHeard::new, (x, q) -> x.say(q, 1), BAD);
        Edge.still("14: FULL", Edge::full, x -> x.say(0, 1), FULL);
        Edge.still("14: FULL", Edge::full, x -> x.say(7, 559), FULL);
        for (int how = -700; how < 1300; how++) {
            boolean is = how > 0 && how / 100 < 6 && how % 100 / 10 < 6 && how % 10 > 0;
            WhoeverHeard x = new WhoeverHeard();
            x.promise(0, 1, 0, -1);
            due("14: how " + how, x.say(0, how), is ? 0 : BAD);
            if (is) due("14: as told", x.said(0, 1) * 100 + x.said(0, 2) * 10 + x.said(0, 3), how);
        }
    }

    private static void saySome() {
        WhoeverHeard x = new WhoeverHeard();
        for (int q = 0; q < 8; q++) x.promise(0, 1, 0, -1);
        for (int s = 0; s < 10; s++) due("14: its number", x.say(s % 8, 559 - 100 * (s % 6)), s);
        due("14: FULL", x.say(0, 1), FULL);
        due("14: BAD ahead of FULL", x.say(8, 1), BAD);
        due("14: BAD ahead of FULL", x.say(0, 0), BAD);
        for (int s = 0; s < 10; s++) due("14: its PROMISE", x.said(s, 0), s % 8);
    }

    private static void unsay() {
        Edge.still("15: none", WhoeverHeard::new, WhoeverHeard::unsay, STATE);
        WhoeverHeard x = Edge.full();
        for (int left = 9; left >= 0; left--) {
            due("15: how many there are", x.unsay(), left);
            due("15: it was never said", x.said(left, 0), NO_SUCH);
            due("15: how many there are", x.count(3), left);
            if (left > 0) due("15: the one ahead stays", x.said(left - 1, 0), (left - 1) % 8);
        }
        due("15: none is left", x.unsay(), STATE);
        due("15: none is left", x.unsay(), STATE);
        due("15: the first again", x.say(7, 559), 0);
        due("15: and none again", x.unsay(), 0);
        due("15: PROMISES stay", x.count(2), 8);
    }

    private static void said() {
        Edge.range("16: what", Edge::some, (x, what) -> x.said(0, what), 0, 3, NOT_SO);
        for (int w = 0; w < 4; w++) {
            int what = w;
            Edge.range("16: s", Edge::some, (x, s) -> x.said(s, what), 0, 2, NO_SUCH);
            Edge.range("16: s of ten", Edge::full, (x, s) -> x.said(s, what), 0, 9, NO_SUCH);
            Edge.none("16: none", WhoeverHeard::new, (x, s) -> x.said(s, what), NO_SUCH);
        }
        Edge.still("16: s ahead of what", Edge::some, x -> x.said(3, 4), NO_SUCH);
        Edge.still("16: s ahead of what", Edge::some, x -> x.said(-1, -1), NO_SUCH);
        Edge.still("16: none, ahead of what", WhoeverHeard::new, x -> x.said(0, MIN), NO_SUCH);
    }
}
