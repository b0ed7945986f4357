/** Promises 24 to 34: the sayer, one saying more, even loads, flights. */
public final class SayerTest {
    public static void main(String[] args) {
        judge();
        walk();
        best();
        bestBehindTen();
        bestOfLikeOnes();
        foe();
        loud();
        spare();
        even();
        fleeAndSend();
        rest();
        restless();
        Due.end();
    }

    private static void due(String call, long got, long want) {
        Due.due(call, got, want);
    }

    private static WhoeverHeard sayings(int... hows) {
        WhoeverHeard x = new WhoeverHeard();
        x.promise(0, 1, 1, -1);
        for (int how : hows) x.say(0, how);
        return x;
    }

    private static void judge() {
        due("24: none", sayings().judge(), -1);
        due("24: one", sayings(559).judge(), -1);
        due("24: as far as he can", sayings(1, 211, 421).judge(), -1);
        due("24: too far", sayings(1, 211, 521).judge(), 2);
        due("24: a MINUTE ahead", sayings(21, 11).judge(), 1);
        due("24: the same one", sayings(21, 21, 22).judge(), -1);
        due("24: no MINUTES between", sayings(21, 121, 11).judge(), 1);
        due("24: two MINUTES", sayings(1, 421).judge(), -1);
        due("24: two MINUTES", sayings(1, 521).judge(), 1);
        due("24: only from the last one", sayings(1, 211, 231, 541).judge(), 3);
        WhoeverHeard x = sayings(1, 211, 421);
        x.stride(1);
        due("24: STRIDE", x.judge(), 1);
        x.far(2, 0, 1);
        due("24: HOW FAR", x.judge(), 2);
        x.stride(0);
        x.far(2, 0, 0);
        x.far(2, 4, 0);
        due("24: without a STRIDE", x.judge(), -1);
    }

    private static void walk() {
        due("25: none", sayings().walk(), 0);
        due("25: one", sayings(501).walk(), 0);
        due("25: together", sayings(501, 1, 201, 201, 301).walk(), 8);
        WhoeverHeard x = sayings(501, 1, 501);
        x.far(0, 5, 9);
        due("25: HOW FAR", x.walk(), 18);
    }

    private static void best() {
        WhoeverHeard x = new WhoeverHeard();
        due("26: no such PROMISE", x.best(0, 0), -5);
        x.promise(0, 10, 5, -1);
        due("26: nobody", x.best(0, 0), -1);
        due("26: nobody", x.best(0, 1), -1);
        x.person(0, 0, 1, 399);
        x.person(0, 400, 1, 299);
        x.person(0, 500, 2, 199);
        // LOUD 1 at PLACE 0: one 0 alone, 10 * 3; at PLACE 3: 52 - 15 = 37 to one 1, who needs LOUD 3 there
        // (then one 2 is 2 off: 40 + 36 - 30 = 46); pain 20.
        due("26: how", x.best(0, 0), 303);
        due("26: pain", x.best(0, 1), 20);
        due("26: loud enough there", x.loud(0, 3, 0), 3);
        due("26: nothing was said", x.count(3), 0);
        due("26: what below", x.best(0, -1), -7);
        due("26: what above", x.best(0, 2), -7);
        due("26: no such PROMISE ahead of what", x.best(1, 2), -5);
        due("26: below", x.best(-1, 0), -5);
        x.promise(3, 10, 5, -1);
        due("26: none can", x.best(1, 0), -1);
        due("26: none can", x.best(1, 1), -1);
        x.say(0, 1);
        due("26: KEPT as it is", x.best(0, 0), 1);
        due("26: KEPT as it is", x.best(0, 1), 30);
    }

    private static void bestBehindTen() {
        WhoeverHeard x = new WhoeverHeard();
        x.person(0, 0, 3, 199);
        x.promise(0, 10, 5, -1);
        x.promise(1, 10, 5, -1);
        for (int i = 0; i < 10; i++) x.say(0, 1);
        due("26: behind ten", x.best(1, 0), 1);
        due("26: behind ten", x.best(1, 1), 20);
        due("27: behind ten", x.foe(0, 1, 1), 20);
        due("28: behind ten", x.loud(1, 0, 5), 1);
        due("26: still ten", x.count(3), 10);
        due("26: none owed by it", x.owe(0, 1), 0);
        due("26: as they were", x.said(9, 0), 0);
    }

    private static void bestOfLikeOnes() {
        WhoeverHeard x = new WhoeverHeard();
        x.person(0, 0, 1, 199);
        x.promise(0, 10, 5, -1);
        x.force(Due.read(x, "heard 100 * (base and 1 < far) ; share need; pain 3;"));
        x.hush(4, 1);
        due("26: the first by its number", x.best(0, 0), 241);
        due("26: pain", x.best(0, 1), 3);
        due("27: the first of the most", x.foe(0, 0, 0), 241);
        due("27: the most", x.foe(0, 0, 1), 10);
    }

    private static void foe() {
        WhoeverHeard x = new WhoeverHeard();
        due("27: no such one", x.foe(0, 0, 0), -5);
        x.person(0, 0, 1, 199);
        due("27: no such PROMISE", x.foe(0, 0, 0), -5);
        x.promise(0, 40, 5, -1);
        x.promise(1, 30, 5, 0);
        due("27: how", x.foe(0, 0, 0), 1);
        due("27: how much", x.foe(0, 0, 1), 40);
        due("27: also if it isn't KEPT", x.foe(0, 1, 1), 30);
        x.say(0, 1);
        // By 1 what is owed is struck out: far enough off, 40 stays; 52 - 15 is not CLEARLY at PLACE 1.
        due("27: not to hear it", x.foe(0, 1, 0), 101);
        due("27: not to hear it", x.foe(0, 1, 1), 40);
        due("27: what below", x.foe(0, 0, -1), -7);
        due("27: what above", x.foe(0, 0, 2), -7);
        due("27: no such one ahead of what", x.foe(1, 0, 2), -5);
        due("27: no such PROMISE ahead of what", x.foe(0, 2, 2), -5);
        due("27: below", x.foe(-1, 0, 0), -5);
        due("27: below", x.foe(0, -1, 0), -5);
        x.person(4, 0, 1, 199);
        due("27: a CHILD", x.foe(1, 0, 0), 1);
        due("27: a CHILD", x.foe(1, 0, 1), 0);
    }

    private static void loud() {
        WhoeverHeard x = new WhoeverHeard();
        due("28: no such PROMISE", x.loud(0, 0, 0), -5);
        x.promise(0, 10, 5, -1);
        due("28: nobody", x.loud(0, 0, 0), -1);
        x.person(1, 1, 1, 199);
        // One is at PLACE t; it takes 10 + 15 * far of LOUD * 12.
        due("28: there", x.loud(0, 0, 0), 1);
        due("28: far 1", x.loud(0, 1, 0), 3);
        due("28: far 4", x.loud(0, 4, 0), 6);
        due("28: far 5", x.loud(0, 5, 0), 8);
        due("28: at MINUTE 4", x.loud(0, 4, 4), 1);
        x.far(0, 5, 6);
        due("28: far 6", x.loud(0, 5, 0), 9);
        x.far(0, 5, 7);
        due("28: far 7", x.loud(0, 5, 0), -1);
        due("28: PLACE below", x.loud(0, -1, 0), -7);
        due("28: PLACE above", x.loud(0, 6, 0), -7);
        due("28: MINUTE below", x.loud(0, 0, -1), -7);
        due("28: MINUTE above", x.loud(0, 0, 6), -7);
        due("28: no such PROMISE ahead of these", x.loud(1, 6, 6), -5);
        due("28: below", x.loud(-1, 0, 0), -5);
        due("28: nothing was said", x.count(3), 0);
        x.say(0, 1);
        due("28: KEPT as it is", x.loud(0, 5, 0), 1);
    }

    private static void spare() {
        WhoeverHeard x = new WhoeverHeard();
        due("29: none", x.spare(), 0);
        x.person(0, 0, 1, 199);
        x.person(0, 500, 1, 199);
        x.promise(0, 10, 5, -1);
        x.promise(0, 10, 5, 0);
        x.promise(0, 20, 5, -1);
        x.say(0, 1);
        due("29: it alone", x.spare(), 0);
        x.say(0, 501);
        due("29: each of both", x.spare(), 3);
        x.say(2, 1);
        due("29: but not the other", x.spare(), 3);
        x.say(1, 501);
        // One 1: 0 and 1 struck out; one 0 keeps 0 alone.
        due("29: what strikes out", x.spare(), 10);
        x.unsay();
        x.say(1, 1);
        // 0 is owed by one 1 alone; without the one at PLACE 0, 1 would be owed, and KEPT, too.
        due("29: more KEPT is fine", x.spare(), 9);
    }

    private static void even() {
        WhoeverHeard x = new WhoeverHeard();
        due("30: no such PROMISE", x.even(0, 0), -5);
        due("31: no such PROMISE", x.hardest(0), -5);
        x.promise(0, 7, 5, -1);
        x.promise(0, 7, 5, -1);
        due("30: no such one", x.even(0, 0), -5);
        due("31: nobody", x.hardest(0), -1);
        x.person(0, 0, 1, 299);
        x.person(4, 0, 1, 199);
        x.person(0, 0, 2, 199);
        x.person(0, 200, 1, 103);
        x.person(0, 400, 1, 199);
        due("30: nothing said", x.even(0, 0), -3);
        due("31: nothing said", x.hardest(0), -1);
        x.say(0, 1);
        // One 0 alone: 7.
        due("30: alone", x.even(0, 0), 7);
        due("31: alone", x.hardest(0), 14);
        x.say(0, 201);
        // One 3 has ROOM 3: 1 2 (like 2 of one 0, who is first) ..: one 0 has 4, one 3 has 3.
        due("30: ROOM", x.even(0, 0), 4);
        due("30: ROOM", x.even(0, 3), 3);
        due("30: a CHILD", x.even(0, 1), 0);
        due("30: who can't", x.even(0, 2), 0);
        due("30: who doesn't hear", x.even(0, 4), 0);
        due("31: hardest", x.hardest(0), 8);
        x.say(1, 401);
        due("30: another PROMISE's", x.even(0, 4), 0);
        due("30: all", x.even(1, 4), 7);
        due("30: no such PROMISE", x.even(2, 0), -5);
        due("30: below", x.even(-1, 0), -5);
        due("30: above", x.even(0, 5), -5);
        due("30: below", x.even(0, -1), -5);
        due("31: below", x.hardest(-1), -5);
        due("31: above", x.hardest(2), -5);
        x.promise(0, 4, 5, -1);
        x.say(2, 201);
        due("30: no ROOM", x.even(2, 3), -3);
        due("30: no ROOM, who hears nothing", x.even(2, 0), -3);
        due("31: no ROOM", x.hardest(2), -1);
        evenOfLikeOnes();
    }

    private static void evenOfLikeOnes() {
        WhoeverHeard x = new WhoeverHeard();
        x.promise(0, 5, 5, -1);
        x.person(0, 0, 1, 299);
        x.person(0, 0, 1, 199);
        x.person(0, 0, 1, 299);
        x.say(0, 1);
        // 1: one 1 (1); 2: one 0 (of 2 2 2); 3: one 1 (2); 4: one 2; 5: one 1 (3).
        int[] want = {1, 3, 1};
        for (int p = 0; p < 3; p++) due("30: of like ones the first", x.even(0, p), want[p]);
        due("31: hardest", x.hardest(0), 3);
        x.promise(0, 2, 5, -1);
        x.say(1, 1);
        want = new int[] {1, 1, 0};
        for (int p = 0; p < 3; p++) due("30: the first, not the last", x.even(1, p), want[p]);
        x = new WhoeverHeard();
        x.promise(0, 3, 5, -1);
        x.person(0, 0, 1, 399);
        x.person(0, 0, 1, 199);
        x.say(0, 1);
        // One 1 twice (1, 2); then 3 of both.
        due("30: how much he has, and 1", x.even(0, 0), 1);
        due("30: how much he has, and 1", x.even(0, 1), 2);
        x = new WhoeverHeard();
        x.promise(0, 3, 5, -1);
        x.person(0, 0, 1, 199);
        x.person(0, 0, 1, 199);
        x.say(0, 1);
        x.even(0, 0);
        due("30: what is owed stays", x.owe(0, 0), 3);
    }

    private static void fleeAndSend() {
        WhoeverHeard x = new WhoeverHeard();
        due("32: no such one", x.flee(0, 0), -5);
        due("33: no such one", x.send(0, 0), -5);
        x.person(0, 300, 1, 199);
        due("32: nothing said", x.flee(0, 0), 0);
        due("33: nothing said", x.send(0, 0), 0);
        x.promise(0, 10, 5, -1);
        x.promise(0, 20, 5, -1);
        x.say(0, 4);
        x.say(1, 303);
        // 0 is heard at PLACES 0 .. 2, 1 at PLACES 2 .. 4.
        due("32: PLACE", x.flee(0, 0), 5);
        due("32: how much", x.flee(0, 1), 0);
        due("33: PLACE", x.send(0, 0), 2);
        due("33: how much", x.send(0, 1), 30);
        due("32: nobody moves", x.told(0, 7), 3);
        due("32: still not", x.move(0, 2), -1);
        due("32: what below", x.flee(0, -1), -7);
        due("32: what above", x.flee(0, 2), -7);
        due("33: what below", x.send(0, -1), -7);
        due("33: what above", x.send(0, 2), -7);
        due("32: no such one ahead of what", x.flee(1, 2), -5);
        due("33: no such one ahead of what", x.send(-1, 2), -5);
        x.say(0, 501);
        due("32: of more", x.flee(0, 0), 0);
        due("32: of more", x.flee(0, 1), 10);
        due("32: still MOVED", x.told(0, 7), 2);
        for (int u = 0; u < 6; u++) {
            WhoeverHeard y = new WhoeverHeard();
            y.person(0, 0, 1, 199);
            y.promise(0, 10, 5, -1);
            for (int v = 0; v < 6; v++) {
                for (int w = 0; w < v; w++) y.far(v, w, 9);
            }
            y.say(0, 100 * u + 1);
            due("32: the first other one", y.flee(0, 0), u == 0 ? 1 : 0);
            due("33: the one", y.send(0, 0), u);
        }
        // A share by how many hear it: one's going changes it.
        x.person(0, 0, 1, 199);
        x.force(Due.read(x, "heard 100 - far * 51; share many * 7 + loud; pain 0;"));
        due("33: by how many", x.send(0, 0), 0);
        due("33: by how many", x.send(0, 1), 18);
    }

    private static void rest() {
        WhoeverHeard x = new WhoeverHeard();
        due("34: nobody", x.rest(6), 0);
        due("34: below", x.rest(-1), -2);
        due("34: above", x.rest(7), -2);
        for (int p = 0; p < 8; p++) x.person(0, 0, 1, 199);
        due("34: nothing owed", x.rest(6), 0);
        x.promise(0, 10, 5, -1);
        x.say(0, 1);
        due("34: none", x.rest(0), 0);
        due("34: none MOVED", x.owe(0, 0), 10);
        due("34: two", x.rest(2), 2);
        due("34: one MOVED", x.told(0, 7), 1);
        due("34: one MOVED", x.told(1, 7), 1);
        due("34: one didn't", x.told(2, 7), 0);
        due("34: at most", x.rest(5), 5);
        due("34: the last one", x.rest(6), 1);
        due("34: at rest", x.rest(6), 0);
        due("34: all are gone", x.heard(0), 0);
        due("34: truly", x.move(7, -1), 1);
    }

    /** Two owe more where both hear: one goes, and both are at rest, till a third comes after them. */
    private static void restless() {
        WhoeverHeard x = new WhoeverHeard();
        x.person(0, 100, 1, 199);
        x.person(0, 100, 1, 199);
        x.promise(0, 10, 5, -1);
        for (int u = 0; u < 6; u++) x.say(0, 100 * u + 1);
        x.force(Due.read(x, "heard 100 - far * 51; share many * 10; pain 0;"));
        due("34: one goes", x.rest(6), 1);
        due("34: to the first PLACE", x.told(0, 7), 0);
        due("34: the other stays", x.told(1, 7), 1);
        due("34: not by like ones", x.move(1, 3), -1);
        // One 2, who can't do it, owes less the more hear it, and goes after the two.
        x.force(Due.read(x, "heard 100 - far * 51; share base * many + (not base) * (9 - many); pain 0;"));
        x.person(0, 400, 0, 199);
        due("34: round and round to the end", x.rest(6), 6);
    }
}
