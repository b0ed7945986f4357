/** Promises 9 to 16: people, promises, sayings. */
public final class PeopleTest {
    public static void main(String[] args) {
        person();
        move();
        told();
        promise();
        promised();
        say();
        unsay();
        said();
        Due.end();
    }

    private static void due(String call, long got, long want) {
        Due.due(call, got, want);
    }

    private static void person() {
        WhoeverHeard x = new WhoeverHeard();
        due("9: kind below", x.person(-1, 0, 0, 100), -2);
        due("9: kind above", x.person(6, 0, 0, 100), -2);
        due("9: what below", x.person(0, -1, 0, 100), -2);
        due("9: what above", x.person(0, 600, 0, 100), -2);
        due("9: works below", x.person(0, 0, -1, 100), -2);
        due("9: works above", x.person(0, 0, 256, 100), -2);
        due("9: no PAINS", x.person(0, 0, 0, 99), -2);
        due("9: load above", x.person(0, 0, 0, 1000), -2);
        due("9: load least", x.person(0, 0, 0, Integer.MIN_VALUE), -2);
        due("9: nobody came", x.count(1), 0);
        for (int p = 0; p < 8; p++) due("9: number", x.person(p % 6, 599, 255, 999), p);
        due("9: FULL", x.person(0, 0, 0, 100), -4);
        due("9: BAD ahead of FULL", x.person(0, 0, 0, 99), -2);
        due("9: eight", x.count(1), 8);
    }

    private static void move() {
        WhoeverHeard x = new WhoeverHeard();
        due("10: no such one", x.move(0, 0), -5);
        x.person(0, 300, 0, 100);
        due("10: at first", x.move(0, 5), -1);
        due("10: where one is", x.told(0, 7), 5);
        due("10: had", x.move(0, 0), 5);
        due("10: had 0", x.move(0, -1), 0);
        due("10: at HOME", x.told(0, 7), 3);
        due("10: u below", x.move(0, -2), -7);
        due("10: u above", x.move(0, 6), -7);
        due("10: no such one ahead of u", x.move(1, 6), -5);
        due("10: one below", x.move(-1, 0), -5);
        due("10: still not", x.move(0, 2), -1);
        due("10: HOME stays", x.told(0, 1), 3);
    }

    private static void places(WhoeverHeard x, int p, int... want) {
        for (int t = 0; t < 6; t++) due("11: one " + p + " in MINUTE " + t, x.told(p, 7 + t), want[t]);
    }

    private static void told() {
        WhoeverHeard x = new WhoeverHeard();
        x.person(3, 472, 129, 507);
        int[] want = {3, 4, 7, 2, 129, 5, 7};
        for (int what = 0; what < 7; what++) due("11: told(0, " + what + ")", x.told(0, what), want[what]);
        x.person(0, 0, 0, 100);
        due("11: PAINS 1", x.told(1, 5), 1);
        due("11: ROOM 0", x.told(1, 6), 0);
        due("11: above", x.told(0, 13), -7);
        due("11: below", x.told(0, -1), -7);
        due("11: no such one", x.told(2, 0), -5);
        due("11: no such one ahead of what", x.told(-1, 99), -5);
        x = new WhoeverHeard();
        x.person(3, 472, 129, 507);
        places(x, 0, 4, 4, 0, 0, 0, 0);
        x.person(1, 400, 0, 100);
        places(x, 1, 4, 5, 0, 1, 2, 3);
        x.person(1, 501, 0, 100);
        places(x, 2, 5, 0, 1, 2, 3, 4);
        x.person(1, 103, 0, 100);
        places(x, 3, 1, 1, 1, 2, 2, 2);
        x.person(5, 502, 0, 100);
        places(x, 4, 5, 5, 0, 0, 1, 1);
        x.person(0, 501, 0, 100);
        places(x, 5, 5, 5, 5, 5, 5, 5);
        x.person(2, 301, 0, 100);
        places(x, 6, 3, 3, 3, 3, 3, 3);
        x.person(4, 201, 0, 100);
        places(x, 7, 2, 2, 2, 2, 2, 2);
        x.move(0, 2);
        places(x, 0, 2, 2, 0, 0, 4, 4);
        x.move(1, 0);
        places(x, 1, 0, 1, 2, 3, 4, 5);
        x.move(5, 3);
        places(x, 5, 3, 3, 3, 3, 3, 3);
    }

    private static void promise() {
        WhoeverHeard x = new WhoeverHeard();
        due("12: CONTRARY to itself", x.promise(0, 1, 0, 0), -2);
        due("12: w below", x.promise(-1, 1, 0, -1), -2);
        due("12: w above", x.promise(8, 1, 0, -1), -2);
        due("12: n below", x.promise(0, 0, 0, -1), -2);
        due("12: n above", x.promise(0, 100, 0, -1), -2);
        due("12: v below", x.promise(0, 1, -1, -1), -2);
        due("12: v above", x.promise(0, 1, 100, -1), -2);
        due("12: against below", x.promise(0, 1, 0, -2), -2);
        due("12: none came", x.count(2), 0);
        for (int q = 0; q < 8; q++) due("12: number", x.promise(7, 99, 99, q - 1), q);
        due("12: FULL", x.promise(0, 1, 0, 7), -4);
        due("12: BAD ahead of FULL", x.promise(0, 1, 0, 8), -2);
        due("12: eight", x.count(2), 8);
    }

    private static void promised() {
        WhoeverHeard x = new WhoeverHeard();
        x.promise(3, 99, 0, -1);
        x.promise(7, 1, 99, 0);
        int[][] want = {{3, 99, 0, -1}, {7, 1, 99, 0}};
        for (int q = 0; q < 2; q++) {
            for (int what = 0; what < 4; what++) due("13: promised", x.promised(q, what), want[q][what]);
        }
        due("13: below", x.promised(0, -1), -7);
        due("13: above", x.promised(0, 4), -7);
        due("13: no such PROMISE", x.promised(2, 4), -5);
        due("13: no such PROMISE", x.promised(-1, 0), -5);
    }

    private static void say() {
        WhoeverHeard x = new WhoeverHeard();
        due("14: no PROMISE", x.say(0, 1), -2);
        x.promise(0, 1, 0, -1);
        due("14: below", x.say(-1, 1), -2);
        due("14: not LOUD", x.say(0, 0), -2);
        due("14: not LOUD", x.say(0, 50), -2);
        due("14: MINUTE above", x.say(0, 61), -2);
        due("14: MINUTE above", x.say(0, 599), -2);
        due("14: PLACE above", x.say(0, 601), -2);
        due("14: how below", x.say(0, -1), -2);
        due("14: how least", x.say(0, Integer.MIN_VALUE), -2);
        due("14: none said", x.count(3), 0);
        for (int s = 0; s < 10; s++) due("14: number", x.say(0, 559), s);
        due("14: FULL", x.say(0, 559), -4);
        due("14: BAD ahead of FULL", x.say(1, 559), -2);
        due("14: ten", x.count(3), 10);
    }

    private static void unsay() {
        WhoeverHeard x = new WhoeverHeard();
        due("15: none", x.unsay(), -3);
        x.promise(0, 1, 0, -1);
        x.say(0, 1);
        x.say(0, 2);
        x.say(0, 3);
        due("15: two", x.unsay(), 2);
        due("15: the latest one", x.said(1, 3), 2);
        due("15: it is gone", x.said(2, 3), -5);
        due("15: one", x.unsay(), 1);
        due("15: the next one's number", x.say(0, 9), 1);
        due("15: another", x.said(1, 3), 9);
        x.unsay();
        due("15: none left", x.unsay(), 0);
        due("15: STATE", x.unsay(), -3);
    }

    private static void said() {
        WhoeverHeard x = new WhoeverHeard();
        x.promise(0, 1, 0, -1);
        x.promise(0, 1, 0, -1);
        x.say(1, 349);
        int[] want = {1, 3, 4, 9};
        for (int what = 0; what < 4; what++) due("16: said", x.said(0, what), want[what]);
        due("16: below", x.said(0, -1), -7);
        due("16: above", x.said(0, 4), -7);
        due("16: no such SAYING", x.said(1, 4), -5);
        due("16: no such SAYING", x.said(-1, 0), -5);
    }
}
