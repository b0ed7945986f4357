import java.util.Random;

/** Long runs of drawn calls: each answer beside the model's. */
public final class ModelTest {
    private static final int RUNS = 400, CALLS = 440;
    private static final int[] EDGES = {Integer.MIN_VALUE, -100, -2, -1, 6, 7, 8, 10, 13, 16, 40, 41, 99, 100,
        256, 600, 1000, 99999, 100000, 65536, Integer.MAX_VALUE};
    private static final String[] TEXTS = {
        "heard 100 ; share need * base ; pain need * base + ear ;",
        "heard loud * 10 - far * 9 + ear - base * 2 ; share 1 + need * (2 < many) ; pain need * need - 5 ;",
        "heard 30 + 70 * (far = 0 or loud = 9) ; share loud + many ; pain 9999 * 9999 * need ;",
        "heard not far and ear < 5 or 60 - far * 7 ; share need - many * base * 3 ; pain - - need ;",
        "heard 45 + ear * 2 - far * base; share 50 - loud * 4 ; pain (base * (need + (1)));",
        "heard 20 + loud * 8 ;\nshare 99 * (not base) + 5 ; pain base;"};
    private static final String[] PIECES = {"heard", "share", "pain", ";", "loud", "far", "ear", "need", "many", "base",
        "or", "and", "not", "(", ")", "+", "-", "*", "<", "=", "7", "1234", "12345", " ", "\n", "x", "#", "\t", "A"};

    private final WhoeverHeard x = new WhoeverHeard();
    private final Model m = new Model();
    private final Random lots;
    private final int run;
    private int calls = 0;

    private ModelTest(int run) {
        this.run = run;
        lots = new Random(run);
    }

    public static void main(String[] args) {
        for (int run = 0; run < RUNS; run++) {
            ModelTest one = new ModelTest(run);
            one.settle();
            while (one.calls < CALLS) one.call(one.lots.nextInt(64));
        }
        Due.end();
    }

    private int upTo(int n) { return lots.nextInt(n + 1); }

    /** Mostly 0 .. most, now and then an edge. */
    private int arg(int most) {
        return lots.nextInt(25) == 0 ? EDGES[lots.nextInt(EDGES.length)] : upTo(most);
    }

    private int one() { return arg(Math.max(0, m.people.size() - 1)); }
    private int vow() { return arg(Math.max(0, m.promises.size() - 1)); }
    private int saying() { return arg(Math.max(0, m.sayings.size() - 1)); }
    private int how() { return lots.nextInt(12) == 0 ? arg(620) : 100 * upTo(5) + 10 * upTo(5) + 1 + upTo(8); }

    private void same(String call, long got, long want, int... args) {
        calls++;
        if (got == want) { Due.due(call, got, want); return; }
        StringBuilder b = new StringBuilder("run " + run + ", call " + calls + ": " + call + "(");
        for (int a : args) b.append(a).append(' ');
        Due.due(b.append(")").toString(), got, want);
    }

    private void settle() {
        int people = 1 + upTo(7), promises = upTo(8), sayings = upTo(10);
        for (int i = 0; i < people; i++) person();
        for (int i = 0; i < promises; i++) promise();
        for (int i = 0; i < sayings; i++) say();
        if (upTo(1) == 0) feedText(TEXTS[lots.nextInt(TEXTS.length)]);
    }

    private void person() {
        int k = arg(5), w = arg(599), b = upTo(2) == 0 ? 255 : arg(255), l = upTo(2) == 0 ? arg(1010) : 100 * (1 + upTo(8)) + upTo(99);
        same("person", x.person(k, w, b, l), m.person(k, w, b, l), k, w, b, l);
    }

    private void promise() {
        int w = arg(7), n = upTo(1) == 0 ? 1 + upTo(8) : arg(99), v = arg(99), c = upTo(1) == 0 ? -1 : vow();
        same("promise", x.promise(w, n, v, c), m.promise(w, n, v, c), w, n, v, c);
    }

    private void say() {
        int q = vow(), h = how();
        same("say", x.say(q, h), m.say(q, h), q, h);
    }

    private void feedText(String t) {
        for (int at = 0; at < t.length();) {
            int n = Math.min(1 + upTo(4), t.length() - at);
            int[] b = new int[5];
            for (int i = 0; i < 5; i++) b[i] = i < n ? t.charAt(at + i) : upTo(255);
            same("feed", x.feed(n, b[0], b[1], b[2], b[3], b[4]), m.feed(n, b[0], b[1], b[2], b[3], b[4]), n, b[0], b[1], b[2], b[3], b[4]);
            at += n;
        }
        same("text", x.text(), m.text());
    }

    private void text() {
        int sort = upTo(5);
        if (sort == 0) { feedText(TEXTS[lots.nextInt(TEXTS.length)]); return; }
        if (sort == 1) {
            StringBuilder b = new StringBuilder(TEXTS[lots.nextInt(TEXTS.length)]);
            String piece = PIECES[lots.nextInt(PIECES.length)];
            int at = upTo(b.length() - 1);
            if (upTo(1) == 0) b.insert(at, piece); else b.replace(at, Math.min(b.length(), at + 1 + upTo(3)), piece);
            feedText(b.toString());
            return;
        }
        if (sort == 2) {
            StringBuilder b = new StringBuilder("heard ");
            for (int i = upTo(9); i >= 0; i--) b.append(PIECES[10 + lots.nextInt(14)]).append(upTo(1) == 0 ? " " : "");
            feedText(b.toString());
            return;
        }
        same("text", x.text(), m.text());
    }

    private void sheetTold() {
        int s = upTo(3), sort = upTo(2), n = m.sayings.size();
        same("sheet", x.sheet(s, sort, n), m.sheet(s, sort, n), s, sort, n);
        for (int i = 0; i < n; i++) {
            int v = upTo(9) == 0 ? arg(255) : m.heard(i);
            same("cell", x.cell(s, i, v), m.cell(s, i, v), s, i, v);
        }
        same("witness", x.witness(s), m.witness(s), s);
        int p = one();
        same("alibi", x.alibi(p, s), m.alibi(p, s), p, s);
    }

    private void sheetOfPromises() {
        int s = upTo(3), sort = upTo(2), n = upTo(40);
        same("sheet", x.sheet(s, sort, n), m.sheet(s, sort, n), s, sort, n);
        for (int i = 0; i < Math.min(n, 16); i++) {
            int v = i % 4 == 3 ? -1 : arg(i % 4 == 0 ? 7 : 99);
            same("cell", x.cell(s, i, v), m.cell(s, i, v), s, i, v);
        }
        promisesBy(s, sort);
    }

    private void promisesBy(int s, int sort) {
        int at = upTo(3) == 0 ? arg(40) : 0, n = arg(4);
        same("promisesBy", x.promisesBy(s, sort, at, n), m.promisesBy(s, sort, at, n), s, sort, at, n);
        same("count", x.count(2), m.count(2), 2);
    }

    private void call(int which) {
        int a = arg(5), b = arg(5), c = arg(9), p = one(), q = vow(), s = saying();
        int w1 = arg(1), w2 = arg(2), w3 = arg(3), w4 = arg(4);
        switch (which) {
            case 0: same("far", x.far(a, b, c), m.far(a, b, c), a, b, c); break;
            case 1: same("hush", x.hush(a, c), m.hush(a, c), a, c); break;
            case 2: same("stride", x.stride(c), m.stride(c), c); break;
            case 3: { int w = arg(6); same("count", x.count(w), m.count(w), w); break; }
            case 4: { int n = arg(5), d = arg(255); same("feed", x.feed(n, d, c, 1, 2, 3), m.feed(n, d, c, 1, 2, 3), n, d, c); break; }
            case 5: case 6: text(); break;
            case 7: { int t = arg(m.texts.size() - 1); same("force", x.force(t), m.force(t), t); break; }
            case 8: person(); break;
            case 9: { int u = arg(6) - 1; same("move", x.move(p, u), m.move(p, u), p, u); break; }
            case 10: { int w = arg(12); same("told", x.told(p, w), m.told(p, w), p, w); break; }
            case 11: promise(); break;
            case 12: same("promised", x.promised(q, w3), m.promised(q, w3), q, w3); break;
            case 13: case 14: say(); break;
            case 15: same("unsay", x.unsay(), m.unsay()); break;
            case 16: same("said", x.said(s, w3), m.said(s, w3), s, w3); break;
            case 17: case 18: same("hears", x.hears(s, p), m.hears(s, p), s, p); break;
            case 19: same("heard", x.heard(s), m.heard(s), s); break;
            case 20: same("nobody", x.nobody(), m.nobody()); break;
            case 21: case 22: same("owe", x.owe(p, q), m.owe(p, q), p, q); break;
            case 23: case 24: same("load", x.load(p, w4), m.load(p, w4), p, w4); break;
            case 25: same("done", x.done(q), m.done(q), q); break;
            case 26: case 27: same("sum", x.sum(w3), m.sum(w3), w3); break;
            case 28: same("judge", x.judge(), m.judge()); break;
            case 29: same("walk", x.walk(), m.walk()); break;
            case 30: if (upTo(9) == 0) same("best", x.best(q, w1), m.best(q, w1), q, w1); break;
            case 31: if (upTo(9) == 0) same("foe", x.foe(p, q, w1), m.foe(p, q, w1), p, q, w1); break;
            case 32: same("loud", x.loud(q, a, b), m.loud(q, a, b), q, a, b); break;
            case 33: same("spare", x.spare(), m.spare()); break;
            case 34: same("even", x.even(q, p), m.even(q, p), q, p); break;
            case 35: same("hardest", x.hardest(q), m.hardest(q), q); break;
            case 36: same("flee", x.flee(p, w1), m.flee(p, w1), p, w1); break;
            case 37: same("send", x.send(p, w1), m.send(p, w1), p, w1); break;
            case 38: { int n = arg(6); same("rest", x.rest(n), m.rest(n), n); break; }
            case 39: case 40: same("chance", x.chance(p, q), m.chance(p, q), p, q); break;
            case 41: same("lost", x.lost(q), m.lost(q), q); break;
            case 42: same("laws", x.laws(w2), m.laws(w2), w2); break;
            case 43: { int sh = arg(3); same("witness", x.witness(sh), m.witness(sh), sh); break; }
            case 44: { int sh = arg(3); same("alibi", x.alibi(p, sh), m.alibi(p, sh), p, sh); break; }
            case 45: case 46: { int seed = arg(99999); same("drawn", x.drawn(seed, w2), m.drawn(seed, w2), seed, w2); break; }
            case 47: { int seed = upTo(5) == 0 ? 99999 - upTo(20) : arg(99999), n = arg(20);
                same("odds", x.odds(q, seed, n, w1), m.odds(q, seed, n, w1), q, seed, n, w1); break; }
            case 48: same("image", x.image(), m.image()); break;
            case 49: same("back", x.back(), m.back()); break;
            case 50: { int n = arg(40), sort = arg(3) - 1, sh = arg(3); same("sheet", x.sheet(sh, sort, n), m.sheet(sh, sort, n), sh, sort, n); break; }
            case 51: { int sh = arg(3), i = arg(8), v = arg(300) - 100; same("cell", x.cell(sh, i, v), m.cell(sh, i, v), sh, i, v); break; }
            case 52: case 53: { int sh = arg(3), i = arg(8), o = arg(3), j = arg(8), n = arg(10);
                same("copy", x.copy(sh, i, o, j, n), m.copy(sh, i, o, j, n), sh, i, o, j, n); break; }
            case 54: promisesBy(arg(3), arg(2)); break;
            case 55: case 56: { int i = arg(16), k = arg(6); same("taken", x.taken(i, k), m.taken(i, k), i, k); break; }
            case 57: case 58: sheetTold(); break;
            case 59: if (upTo(4) == 0) sheetOfPromises(); break;
            default: { int t = 7 + upTo(5); same("told", x.told(p, t), m.told(p, t), p, t); break; }
        }
    }
}
