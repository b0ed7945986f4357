import java.util.ArrayList;
import java.util.Arrays;
import java.util.HashMap;
import java.util.List;
import java.util.Map;
import java.util.function.IntBinaryOperator;
import java.util.function.ToIntFunction;

/** A second reading of the document, in plain Java with the library: slow, and with nothing kept between calls. */
final class Model {
    static final long NO = -4611686018427387904L;

    static class One {
        int home, ear, more, works, pains, room, moved = -1;
        final int kind;
        One(int kind) { this.kind = kind; }
        int start() { return moved < 0 ? home : moved; }
        int at(int t) { return start(); }
        int hear(int h, int loud) { return h; }
        boolean bound() { return true; }
        boolean can(int w) { return (works & (1 << w)) != 0; }
    }
    static class Walker extends One {
        Walker(int kind) { super(kind); }
        @Override int at(int t) { return (start() + t / (more == 0 ? 1 : more)) % 6; }
    }
    static class Deaf extends One {
        Deaf() { super(2); }
        @Override int hear(int h, int loud) { return h / 2; }
    }
    static class Buyer extends Walker {
        Buyer() { super(3); }
        @Override int at(int t) { return t == 2 || t == 3 ? 0 : super.at(t); }
    }
    static class Child extends One {
        Child() { super(4); }
        @Override boolean bound() { return false; }
    }
    static class Shy extends Walker {
        Shy() { super(5); }
        @Override int hear(int h, int loud) { return loud > more ? 0 : h; }
    }
    record Promise(int work, int needs, int worth, int contrary) { }
    record Saying(int promise, int place, int minute, int loud) {
        static Saying of(int q, int how) { return new Saying(q, how / 100, how / 10 % 10, how % 10); }
    }
    interface Value { int of(Map<String, Integer> names); }
    record Text(Value heard, Value share, Value pain) { }
    static final class Fault extends RuntimeException {
        final int place;
        Fault(int place) { super(null, null, false, false); this.place = place; }
    }

    /** Reads a TEXT by descent, token by token, straight from its characters. */
    static final class Parser {
        final String s;
        int at, end, open;
        String token;
        Parser(String s) { this.s = s; next(); }
        void next() {
            at = end;
            while (at < s.length() && (s.charAt(at) == ' ' || s.charAt(at) == '\n')) at++;
            end = at;
            if (at == s.length()) { token = ""; return; }
            while (end < s.length() && s.charAt(end) >= 'a' && s.charAt(end) <= 'z') end++;
            if (end == at) while (end < s.length() && s.charAt(end) >= '0' && s.charAt(end) <= '9') end++;
            if (end == at) end++;
            token = s.substring(at, end);
        }
        Fault fault() { return new Fault(at); }
        void must(String t) { if (!token.equals(t)) throw fault(); next(); }
        Text text() {
            must("heard"); Value h = or(); must(";");
            must("share"); Value sh = or(); must(";");
            must("pain"); Value p = or(); must(";");
            if (!token.isEmpty()) throw fault();
            return new Text(h, sh, p);
        }
        Value two(Value a, Value b, IntBinaryOperator f) { return n -> f.applyAsInt(a.of(n), b.of(n)); }
        Value or() {
            Value v = and();
            while (token.equals("or")) { next(); v = two(v, and(), (a, b) -> a != 0 || b != 0 ? 1 : 0); }
            return v;
        }
        Value and() {
            Value v = not();
            while (token.equals("and")) { next(); v = two(v, not(), (a, b) -> a != 0 && b != 0 ? 1 : 0); }
            return v;
        }
        void open() { if (open == 5) throw fault(); open++; next(); }
        Value not() {
            if (token.equals("not")) {
                open();
                Value v = not();
                open--;
                return n -> v.of(n) == 0 ? 1 : 0;
            }
            Value v = sum();
            if (token.equals("<")) { next(); return two(v, sum(), (a, b) -> a < b ? 1 : 0); }
            if (token.equals("=")) { next(); return two(v, sum(), (a, b) -> a == b ? 1 : 0); }
            return v;
        }
        Value sum() {
            Value v = term();
            while (true) {
                if (token.equals("+")) { next(); v = two(v, term(), (a, b) -> a + b); }
                else if (token.equals("-")) { next(); v = two(v, term(), (a, b) -> a - b); }
                else return v;
            }
        }
        Value term() {
            Value v = one();
            while (token.equals("*")) { next(); v = two(v, one(), (a, b) -> a * b); }
            return v;
        }
        Value one() {
            if (token.equals("-")) {
                open();
                Value v = one();
                open--;
                return n -> -v.of(n);
            }
            if (token.equals("(")) {
                open();
                Value v = or();
                if (!token.equals(")")) throw fault();
                open--;
                next();
                return v;
            }
            if (List.of("loud", "far", "ear", "need", "many", "base").contains(token)) {
                String name = token;
                next();
                return n -> n.getOrDefault(name, 0);
            }
            if (token.matches("[0-9]{1,4}")) {
                int number = Integer.parseInt(token);
                next();
                return n -> number;
            }
            throw fault();
        }
    }

    int[][] far = new int[6][6];
    int[] noise = new int[6];
    int stride = 2;
    List<One> people = new ArrayList<>();
    List<Promise> promises = new ArrayList<>();
    List<Saying> sayings = new ArrayList<>();
    List<Text> texts = new ArrayList<>();
    int law = 0;
    StringBuilder tape = new StringBuilder();
    Object[] sheets = new Object[4];
    Model kept = null;

    Model() {
        for (int u = 0; u < 6; u++) for (int v = 0; v < 6; v++) far[u][v] = Math.abs(u - v);
        texts.add(new Parser("heard 40 + loud * 12 - far * 15 + ear * 3 ; share need ; pain need * base ;").text());
    }

    static boolean in(int v, int low, int high) { return v >= low && v <= high; }
    boolean one(int p) { return in(p, 0, people.size() - 1); }
    boolean vow(int q) { return in(q, 0, promises.size() - 1); }
    boolean saying(int s) { return in(s, 0, sayings.size() - 1); }
    static boolean how(int h) { return in(h, 0, 599) && in(h / 10 % 10, 0, 5) && in(h % 10, 1, 9); }

    /** All that follows from one law, some sayings and, by lots or not, who hears them. */
    final class Day {
        final Text by;
        final List<Saying> words;
        final int[] clear;
        final int[][] owed = new int[8][8];
        final int[] struck = new int[8], beyond = new int[8];

        Day(int law, List<Saying> words, int seed) {
            by = texts.get(law);
            this.words = words;
            clear = new int[words.size()];
            long lot = seed + 1L;
            for (int s = 0; s < clear.length; s++) {
                for (int p = 0; p < people.size(); p++) {
                    lot = lot * 48271 % 2147483647;
                    int least = seed < 0 ? 50 : (int) (lot % 100) + 1;
                    if (hears(s, p) >= least) clear[s] += 1 << p;
                }
            }
            for (int p = 0; p < people.size(); p++) bind(p);
        }
        Day() { this(law, sayings, -1); }

        int hears(int s, int p) {
            Saying w = words.get(s);
            One o = people.get(p);
            Map<String, Integer> n = new HashMap<>();
            n.put("loud", w.loud);
            n.put("far", far[o.at(w.minute)][w.place]);
            n.put("ear", o.ear);
            n.put("base", noise[w.minute]);
            return o.hear(cut(by.heard.of(n), 100), w.loud);
        }
        void bind(int p) {
            One o = people.get(p);
            int[] mine = owed[p];
            for (int s = 0; s < clear.length; s++) {
                if (!o.bound() || (clear[s] >> p) % 2 == 0) continue;
                Saying w = words.get(s);
                Promise q = promises.get(w.promise);
                int share = cut(by.share.of(Map.of("loud", w.loud, "need", q.needs,
                    "many", Integer.bitCount(clear[s]), "base", o.can(q.work) ? 1 : 0)), 99);
                if (share > mine[w.promise]) mine[w.promise] = share;
            }
            for (int q = 0; q < promises.size(); q++) {
                int c = promises.get(q).contrary;
                if (c < 0) continue;
                int lesser = Math.min(mine[q], mine[c]);
                mine[q] -= lesser;
                mine[c] -= lesser;
                struck[p] += lesser;
            }
            int room = o.room;
            for (int q = 0; q < promises.size(); q++) {
                int keeps = Math.min(room, mine[q]);
                beyond[p] += mine[q] - keeps;
                mine[q] = keeps;
                room -= keeps;
            }
        }
        int total(int p) { return Arrays.stream(owed[p]).sum(); }
        int pain(int p) {
            One o = people.get(p);
            return cut(by.pain.of(Map.of("ear", o.ear, "need", total(p), "base", o.pains)), 9999);
        }
        int pain() { int a = 0; for (int p = 0; p < people.size(); p++) a += pain(p); return a; }
        int done(int q) {
            int a = 0;
            for (int p = 0; p < people.size(); p++) if (people.get(p).can(promises.get(q).work)) a += owed[p][q];
            return Math.min(a, promises.get(q).needs);
        }
        boolean keeps(int q) { return done(q) == promises.get(q).needs; }
        int kept() { int b = 0; for (int q = 0; q < promises.size(); q++) if (keeps(q)) b |= 1 << q; return b; }
        int worth() { int a = 0; for (int q = 0; q < promises.size(); q++) if (keeps(q)) a += promises.get(q).worth; return a; }
        int outcome(int what) { return what == 0 ? kept() : what == 1 ? worth() : pain(); }
    }
    static int cut(int v, int most) { return v < 0 ? 0 : v > most ? most : v; }
    Day with(int q, int how) {
        List<Saying> more = new ArrayList<>(sayings);
        more.add(Saying.of(q, how));
        return new Day(law, more, -1);
    }

    int far(int u, int v, int d) {
        if (!in(u, 0, 5) || !in(v, 0, 5) || u == v) return -1;
        if (!in(d, 0, 9)) return -2;
        int was = far[u][v];
        far[u][v] = far[v][u] = d;
        return was;
    }
    int hush(int t, int v) {
        if (!in(t, 0, 5)) return -1;
        if (!in(v, 0, 9)) return -2;
        int was = noise[t];
        noise[t] = v;
        return was;
    }
    int stride(int v) {
        if (!in(v, 0, 9)) return -2;
        int was = stride;
        stride = v;
        return was;
    }
    int count(int what) {
        int[] all = {stride, people.size(), promises.size(), sayings.size(), texts.size(), law, tape.length()};
        return in(what, 0, 6) ? all[what] : -2;
    }
    int feed(int n, int a, int b, int c, int d, int e) {
        int[] all = {a, b, c, d, e};
        if (!in(n, 1, 5)) return -2;
        for (int v : all) if (!in(v, 0, 255)) return -2;
        if (tape.length() + n > 160) return -4;
        for (int i = 0; i < n; i++) tape.append((char) all[i]);
        return tape.length();
    }
    int text() {
        if (texts.size() == 6) return -4;
        try {
            texts.add(new Parser(tape.toString()).text());
            return texts.size() - 1;
        } catch (Fault f) {
            return -100 - f.place;
        } finally {
            tape.setLength(0);
        }
    }
    int force(int t) {
        if (!in(t, 0, texts.size() - 1)) return -2;
        int was = law;
        law = t;
        return was;
    }
    int person(int kind, int what, int works, int load) {
        if (!in(kind, 0, 5) || !in(what, 0, 599) || !in(works, 0, 255) || !in(load, 100, 999)) return -2;
        if (people.size() == 8) return -4;
        One o = kind == 0 ? new One(0) : kind == 1 ? new Walker(1) : kind == 2 ? new Deaf()
            : kind == 3 ? new Buyer() : kind == 4 ? new Child() : new Shy();
        o.home = what / 100;
        o.ear = what % 100 / 10;
        o.more = what % 10;
        o.works = works;
        o.pains = load / 100;
        o.room = load % 100;
        people.add(o);
        return people.size() - 1;
    }
    int move(int p, int u) {
        if (!one(p)) return -5;
        if (!in(u, -1, 5)) return -7;
        int was = people.get(p).moved;
        people.get(p).moved = u;
        return was;
    }
    int told(int p, int what) {
        if (!one(p)) return -5;
        if (!in(what, 0, 12)) return -7;
        One o = people.get(p);
        int[] all = {o.kind, o.home, o.ear, o.more, o.works, o.pains, o.room};
        return what < 7 ? all[what] : o.at(what - 7);
    }
    int promise(int w, int n, int v, int against) {
        if (!in(w, 0, 7) || !in(n, 1, 99) || !in(v, 0, 99) || against != -1 && !vow(against)) return -2;
        if (promises.size() == 8) return -4;
        promises.add(new Promise(w, n, v, against));
        return promises.size() - 1;
    }
    int promised(int q, int what) {
        if (!vow(q)) return -5;
        if (!in(what, 0, 3)) return -7;
        Promise v = promises.get(q);
        return new int[] {v.work, v.needs, v.worth, v.contrary}[what];
    }
    int say(int q, int how) {
        if (!vow(q) || !how(how)) return -2;
        if (sayings.size() == 10) return -4;
        sayings.add(Saying.of(q, how));
        return sayings.size() - 1;
    }
    int unsay() {
        if (sayings.isEmpty()) return -3;
        sayings.remove(sayings.size() - 1);
        return sayings.size();
    }
    int said(int s, int what) {
        if (!saying(s)) return -5;
        if (!in(what, 0, 3)) return -7;
        Saying w = sayings.get(s);
        return new int[] {w.promise, w.place, w.minute, w.loud}[what];
    }
    int hears(int s, int p) { return saying(s) && one(p) ? new Day().hears(s, p) : -5; }
    int heard(int s) { return saying(s) ? new Day().clear[s] : -5; }
    int nobody() {
        int bits = 0;
        for (int s = 0; s < sayings.size(); s++) if (new Day().clear[s] == 0) bits += 1 << s;
        return bits;
    }
    int owe(int p, int q) { return one(p) && vow(q) ? new Day().owed[p][q] : -5; }
    int load(int p, int what) {
        if (!one(p)) return -5;
        if (!in(what, 0, 4)) return -7;
        Day d = new Day();
        return new int[] {d.total(p), d.struck[p], d.beyond[p], d.pain(p), people.get(p).room - d.total(p)}[what];
    }
    int done(int q) { return vow(q) ? new Day().done(q) : -5; }
    int sum(int what) {
        if (!in(what, 0, 3)) return -2;
        Day d = new Day();
        if (what < 3) return d.outcome(what);
        int bits = 0;
        for (int p = 0; p < people.size(); p++) if (d.total(p) == people.get(p).room) bits += 1 << p;
        return bits;
    }
    int judge() {
        for (int s = 1; s < sayings.size(); s++) {
            Saying a = sayings.get(s - 1), b = sayings.get(s);
            if (b.minute < a.minute) return s;
            if (far[a.place][b.place] > stride * (b.minute - a.minute)) return s;
        }
        return -1;
    }
    int walk() {
        int way = 0;
        for (int s = 1; s < sayings.size(); s++) way += far[sayings.get(s - 1).place][sayings.get(s).place];
        return way;
    }
    int best(int q, int what) {
        if (!vow(q)) return -5;
        if (!in(what, 0, 1)) return -7;
        int[] found = {-1, -1};
        for (int h = 0; h < 600; h++) {
            if (!how(h)) continue;
            Day d = with(q, h);
            if (d.keeps(q) && (found[0] < 0 || d.pain() < found[1])) found = new int[] {h, d.pain()};
        }
        return found[what];
    }
    int foe(int p, int q, int what) {
        if (!one(p) || !vow(q)) return -5;
        if (!in(what, 0, 1)) return -7;
        int[] found = {-1, -1};
        for (int h = 0; h < 600; h++) {
            if (!how(h)) continue;
            int total = with(q, h).total(p);
            if (total > found[1]) found = new int[] {h, total};
        }
        return found[what];
    }
    int loud(int q, int u, int t) {
        if (!vow(q)) return -5;
        if (!in(u, 0, 5) || !in(t, 0, 5)) return -7;
        for (int l = 1; l < 10; l++) if (with(q, 100 * u + 10 * t + l).keeps(q)) return l;
        return -1;
    }
    int spare() {
        int bits = 0, all = new Day().kept();
        for (int s = 0; s < sayings.size(); s++) {
            List<Saying> less = new ArrayList<>(sayings);
            less.remove(s);
            if ((new Day(law, less, -1).kept() & all) == all) bits += 1 << s;
        }
        return bits;
    }
    /** null, if there isn't room for all of it. */
    int[] even(int q) {
        Day d = new Day();
        int[] has = new int[8];
        for (int n = promises.get(q).needs; n > 0; n--) {
            int to = -1;
            for (int p = people.size() - 1; p >= 0; p--) {
                One o = people.get(p);
                boolean hears = false;
                for (int s = 0; s < sayings.size(); s++) {
                    if (sayings.get(s).promise == q && (d.clear[s] & 1 << p) != 0) hears = true;
                }
                if (!hears || !o.bound() || !o.can(promises.get(q).work) || has[p] >= o.room) continue;
                if (to < 0 || o.pains * (has[p] + 1) <= people.get(to).pains * (has[to] + 1)) to = p;
            }
            if (to < 0) return null;
            has[to]++;
        }
        return has;
    }
    int even(int q, int p) {
        if (!vow(q) || !one(p)) return -5;
        int[] has = even(q);
        return has == null ? -3 : has[p];
    }
    int hardest(int q) {
        if (!vow(q)) return -5;
        int[] has = even(q);
        if (has == null) return -1;
        int most = 0;
        for (int p = 0; p < people.size(); p++) most = Math.max(most, has[p] * people.get(p).pains);
        return most;
    }
    int[] flight(int p, int sign) {
        One o = people.get(p);
        int was = o.moved;
        int[] found = null;
        for (int u = 0; u < 6; u++) {
            o.moved = u;
            int total = new Day().total(p);
            if (found == null || sign * total < sign * found[1]) found = new int[] {u, total};
        }
        o.moved = was;
        return found;
    }
    int flee(int p, int what) { return !one(p) ? -5 : !in(what, 0, 1) ? -7 : flight(p, 1)[what]; }
    int send(int p, int what) { return !one(p) ? -5 : !in(what, 0, 1) ? -7 : flight(p, -1)[what]; }
    int rest(int most) {
        if (!in(most, 0, 6)) return -2;
        int moves = 0, still = 0;
        for (int p = 0; still < people.size() && moves < most; p = (p + 1) % people.size()) {
            int[] flight = flight(p, 1);
            if (flight[1] < new Day().total(p)) {
                people.get(p).moved = flight[0];
                moves++;
                still = 0;
            } else {
                still++;
            }
        }
        return moves;
    }
    long chance(int p, int q) {
        if (!one(p) || !vow(q)) return NO;
        Day d = new Day();
        long left = 1000000;
        for (int s = 0; s < sayings.size(); s++) {
            if (sayings.get(s).promise == q) left = left * (100 - d.hears(s, p)) / 100;
        }
        return 1000000 - left;
    }
    long lost(int q) {
        if (!vow(q)) return NO;
        long left = 1000000;
        for (int p = 0; p < people.size(); p++) {
            One o = people.get(p);
            if (o.bound() && o.can(promises.get(q).work)) left = left * (1000000 - chance(p, q)) / 1000000;
        }
        return left;
    }
    int laws(int what) {
        if (!in(what, 0, 2)) return -2;
        int bits = 0, first = 0;
        ToIntFunction<Integer> worse = t -> {
            Day d = new Day(t, sayings, -1);
            return what == 1 ? -d.worth() : d.pain();
        };
        for (int t = 0; t < texts.size(); t++) {
            if (new Day(t, sayings, -1).kept() == (1 << promises.size()) - 1) bits += 1 << t;
            if (worse.applyAsInt(t) < worse.applyAsInt(first)) first = t;
        }
        return what == 0 ? bits : first;
    }
    static int size(Object row) {
        return row instanceof byte[] b ? b.length : row instanceof short[] s ? s.length : ((int[]) row).length;
    }
    static int at(Object row, int i) {
        return row instanceof byte[] b ? b[i] : row instanceof short[] s ? s[i] : ((int[]) row)[i];
    }
    static int sort(Object row) { return row instanceof byte[] ? 0 : row instanceof short[] ? 1 : 2; }
    int witness(int s) {
        if (!in(s, 0, 3)) return -2;
        if (sheets[s] == null) return -11;
        if (size(sheets[s]) != sayings.size()) return -2;
        Day d = new Day();
        for (int k = 0; k < sayings.size(); k++) {
            int bits = at(sheets[s], k);
            if (sheets[s] instanceof byte[]) bits &= 0xff;
            if (bits != d.clear[k]) return k;
        }
        return -1;
    }
    int alibi(int p, int s) {
        if (!one(p)) return -5;
        if (witness(s) < -1) return witness(s);
        int was = people.get(p).moved, bits = 0;
        for (int u = 0; u < 6; u++) {
            people.get(p).moved = u;
            if (witness(s) == -1) bits += 1 << u;
        }
        people.get(p).moved = was;
        return bits;
    }
    int drawn(int seed, int what) {
        return in(seed, 0, 99999) && in(what, 0, 2) ? new Day(law, sayings, seed).outcome(what) : -2;
    }
    long odds(int q, int seed, int many, int part) {
        if (!vow(q) || !in(seed, 0, 99999) || !in(many, 1, 20) || !in(part, 0, 1)) return NO;
        int times = 0;
        for (int i = 0, next = seed; i < many; i++) {
            if (new Day(law, sayings, next).keeps(q)) times++;
            if (next < 99999) next++;
        }
        for (int d = many; d > 1; d--) {
            if (times % d == 0 && many % d == 0) {
                times /= d;
                many /= d;
            }
        }
        return part == 0 ? times : many;
    }
    int image() {
        kept = new Model();
        for (int u = 0; u < 6; u++) kept.far[u] = far[u].clone();
        kept.noise = noise.clone();
        kept.stride = stride;
        for (One o : people) {
            One same = new One(0);
            same.moved = o.moved;
            kept.people.add(same);
        }
        kept.sayings.addAll(sayings);
        kept.law = law;
        return sayings.size();
    }
    int back() {
        if (kept == null) return -3;
        for (int u = 0; u < 6; u++) far[u] = kept.far[u].clone();
        noise = kept.noise.clone();
        stride = kept.stride;
        for (int p = 0; p < kept.people.size(); p++) people.get(p).moved = kept.people.get(p).moved;
        sayings = new ArrayList<>(kept.sayings);
        law = kept.law;
        return sayings.size();
    }
    int sheet(int s, int sort, int n) {
        if (!in(s, 0, 3) || !in(sort, -1, 2) || sort >= 0 && n > 40) return -2;
        if (sort >= 0 && n < 0) return -14;
        sheets[s] = sort < 0 ? null : sort == 0 ? new byte[n] : sort == 1 ? new short[n] : new int[n];
        return 1;
    }
    int cell(int s, int i, int v) {
        if (!in(s, 0, 3)) return -2;
        if (sheets[s] == null) return -11;
        if (!in(i, 0, size(sheets[s]) - 1)) return -12;
        if (sheets[s] instanceof byte[] b) b[i] = (byte) v;
        else if (sheets[s] instanceof short[] h) h[i] = (short) v;
        else ((int[]) sheets[s])[i] = v;
        return 1;
    }
    int copy(int s, int i, int other, int j, int n) {
        if (!in(s, 0, 3) || !in(other, 0, 3)) return -2;
        try {
            System.arraycopy(sheets[s], i, sheets[other], j, n);
            return n;
        } catch (NullPointerException e) {
            return -11;
        } catch (ArrayStoreException e) {
            return -13;
        } catch (IndexOutOfBoundsException e) {
            return -12;
        }
    }
    int promisesBy(int s, int sort, int at, int n) {
        if (!in(s, 0, 3) || !in(sort, 0, 2) || !in(n, 0, 8)) return -2;
        if (sheets[s] == null) return -11;
        if (sort(sheets[s]) != sort) return -13;
        int came = 0;
        for (int k = 0; k < n; k++) {
            long i = at + 4L * k;
            if (i < 0 || i + 3 >= size(sheets[s])) return -12;
            int c = (int) i;
            Object row = sheets[s];
            if (promise(at(row, c), at(row, c + 1), at(row, c + 2), at(row, c + 3)) >= 0) came++;
        }
        return came;
    }
    int taken(int i, int kind) {
        if (!in(kind, 0, 6)) return -2;
        if (!in(i, 0, 15)) return -12;
        Object there = i < 8 ? (vow(i) ? promises.get(i) : null) : (one(i - 8) ? people.get(i - 8) : null);
        if (there == null) return -11;
        if (kind == 6) return there instanceof Promise q ? q.needs : -13;
        List<Class<?>> kinds = List.of(One.class, Walker.class, Deaf.class, Buyer.class, Child.class, Shy.class);
        return kinds.get(kind).isInstance(there) ? i - 8 : -13;
    }
}
