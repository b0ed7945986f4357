/** Edges: the last numbers taken and the first refused, and that a refused or an asking call leaves all as it was. */
final class Edge {
    static final int MIN = Integer.MIN_VALUE, MAX = Integer.MAX_VALUE;

    interface Make { WhoeverHeard make(); }
    interface Ask { long of(WhoeverHeard x); }
    interface AskBy { long of(WhoeverHeard x, int v); }

    private Edge() { }

    /** The answer is due, and the object is then like one that was not asked. */
    static void still(String call, Make make, Ask ask, long want) {
        WhoeverHeard x = make.make();
        Due.due(call, ask.of(x), want);
        alike(call, x, make.make());
    }

    /** Whatever the answer is: asking leaves the object as it was, and the second answer is the first. */
    static void asks(String call, Make make, Ask ask) {
        WhoeverHeard x = make.make();
        long first = ask.of(x);
        Due.due(call + " asked again", ask.of(x), first);
        alike(call, x, make.make());
    }

    /** low and high are taken; what stands beside them, and the least and the most int, is refused. */
    static void range(String call, Make make, AskBy ask, int low, int high, long refusal) {
        for (int v : new int[] {low, high}) {
            Due.due(call + " takes " + v, ask.of(make.make(), v) == refusal ? 1 : 0, 0);
        }
        for (int v : new int[] {low - 1, high + 1, MIN, MAX}) {
            still(call + " refuses " + v, make, x -> ask.of(x, v), refusal);
        }
    }

    /** There is none: all are refused. */
    static void none(String call, Make make, AskBy ask, long refusal) {
        for (int v : new int[] {MIN, -1, 0, 1, 9, 10, MAX}) {
            still(call + " refuses " + v, make, x -> ask.of(x, v), refusal);
        }
    }

    static void alike(String call, WhoeverHeard x, WhoeverHeard y) {
        long[] one = look(x), other = look(y);
        int unlike = -1;
        for (int i = one.length - 1; i >= 0; i--) if (one[i] != other[i]) unlike = i;
        Due.due(call + " leaves all as it was (look " + unlike + ")", unlike, -1);
    }

    private static long[] seen;
    private static int many;

    private static void see(long v) { seen[many++] = v; }

    /** All that an object tells by some 400 calls; it is spent by them. */
    private static long[] look(WhoeverHeard x) {
        seen = new long[400];
        many = 0;
        for (int what = 0; what <= 6; what++) see(x.count(what));
        for (int s = 0; s < 4; s++) see(x.witness(s));
        lookAtAll(x);
        for (int s = 0; s < 4; s++) {
            for (int n : new int[] {0, 1, 2, 3, 4, 8, 10, 16, 39, 40}) see(x.copy(s, 0, s, 0, n));
        }
        lookAtTown(x);
        for (int t = 0; t < 6; t++) {
            see(x.force(t));
            see(x.hears(0, 0));
            see(x.owe(0, 0));
            see(x.load(0, 3));
        }
        see(x.text());
        see(x.back());
        for (int what = 0; what <= 6; what++) see(x.count(what));
        for (int s = 0; s < 3; s++) see(x.said(s, 0) * 1000 + x.said(s, 1) * 100 + x.said(s, 2) * 10 + x.said(s, 3));
        lookAtTown(x);
        return seen;
    }

    private static void lookAtAll(WhoeverHeard x) {
        for (int p = 0; p < 8; p++) for (int what = 0; what <= 9; what++) see(x.told(p, what));
        for (int q = 0; q < 8; q++) for (int what = 0; what < 4; what++) see(x.promised(q, what));
        for (int s = 0; s < 10; s++) for (int what = 0; what < 4; what++) see(x.said(s, what));
        for (int s = 0; s < 10; s++) see(x.heard(s));
        for (int p = 0; p < 8; p++) see(x.load(p, 0));
        for (int q = 0; q < 8; q++) see(x.done(q));
    }

    private static void lookAtTown(WhoeverHeard x) {
        for (int u = 0; u < 6; u++) for (int v = 0; v < u; v++) see(x.far(u, v, 0));
        for (int t = 0; t < 6; t++) see(x.hush(t, 0));
        for (int p = 0; p < 8; p++) see(x.move(p, -1));
    }

    /** Three of PEOPLE, PROMISES, SAYINGS each, two TEXTS, a tape of three bytes, three sheets, an image of other things. */
    static WhoeverHeard some() {
        WhoeverHeard x = new WhoeverHeard();
        x.person(0, 134, 3, 230);
        x.person(1, 251, 7, 340);
        x.person(2, 9, 255, 899);
        x.promise(0, 12, 5, -1);
        x.promise(1, 99, 7, 0);
        x.promise(0, 1, 99, -1);
        x.say(2, 559);
        x.move(0, 5);
        x.image();
        x.far(1, 4, 7);
        x.hush(3, 6);
        x.stride(4);
        x.move(0, 2);
        x.move(2, 3);
        x.say(0, 234);
        x.say(1, 306);
        Due.read(x, "heard 60 - far * 5; share need + many; pain need + ear;");
        x.force(1);
        x.feed(3, 'h', 'e', 'a', 0, 0);
        x.sheet(0, 0, 3);
        x.sheet(1, 1, 10);
        x.sheet(2, 2, 40);
        for (int i = 0; i < 3; i++) x.cell(0, i, x.heard(i));
        return x;
    }

    /** As many as there can be: PEOPLE, PROMISES, SAYINGS, TEXTS, bytes of THE TAPE, numbers of SHEETS. */
    static WhoeverHeard full() {
        WhoeverHeard x = new WhoeverHeard();
        for (int p = 0; p < 8; p++) x.person(p % 6, 100 * (p % 6) + 59, 255, 199);
        for (int q = 0; q < 8; q++) x.promise(q, 10 + q, q, q % 3 - 1 < q ? q % 3 - 1 : -1);
        for (int s = 0; s < 10; s++) x.say(s % 8, 100 * (s % 6) + 10 * (s % 5) + 1 + s % 9);
        x.image();
        for (int t = 1; t < 6; t++) Due.read(x, "heard 5" + t + "; share " + t + "; pain " + t + ";");
        x.force(5);
        for (int i = 0; i < 32; i++) x.feed(5, 'n', 'o', 't', ' ', '1');
        for (int s = 0; s < 4; s++) x.sheet(s, s % 3, 40);
        return x;
    }
}
