/** Promises 17 to 23: who hears, owes, what is kept. */
public final class KeptTest {
    public static void main(String[] args) {
        hears();
        heard();
        nobody();
        shares();
        contrary();
        load();
        done();
        sum();
        Due.end();
    }

    private static void due(String call, long got, long want) {
        Due.due(call, got, want);
    }

    private static void hears() {
        WhoeverHeard x = new WhoeverHeard();
        due("17: no such SAYING", x.hears(0, 0), -5);
        x.promise(0, 1, 1, -1);
        x.say(0, 123);
        due("17: no such one", x.hears(0, 0), -5);
        x.person(0, 320, 1, 199);
        due("17: 40 + 36 - 30 + 6", x.hears(0, 0), 52);
        x.person(2, 320, 1, 199);
        due("17: DEAF, half", x.hears(0, 1), 26);
        x.person(4, 320, 1, 199);
        due("17: CHILD", x.hears(0, 2), 52);
        x.person(5, 323, 1, 199);
        due("17: SHY, not more LOUD than MORE", x.hears(0, 3), 52);
        x.person(5, 322, 1, 199);
        due("17: SHY, in MINUTE 2 a PLACE on", x.hears(0, 4), 0);
        x.person(3, 320, 1, 199);
        due("17: BUYER at PLACE 0", x.hears(0, 5), 67);
        x.person(1, 321, 1, 199);
        due("17: WALKER at PLACE 5", x.hears(0, 6), 22);
        due("17: below", x.hears(-1, 0), -5);
        due("17: below", x.hears(0, -1), -5);
        due("17: above", x.hears(1, 0), -5);
        due("17: above", x.hears(0, 7), -5);
        x.far(3, 1, 9);
        due("17: 40 + 36 - 135 + 6, cut", x.hears(0, 0), 0);
        x.move(0, 1);
        due("17: MOVED", x.hears(0, 0), 82);
        x.say(0, 109);
        due("17: 40 + 108 + 6, cut", x.hears(1, 0), 100);
        x.say(0, 421);
        due("17: DEAF, an odd half", x.hears(2, 1), 21);
        x.hush(2, 7);
        x.force(Due.read(x, "heard base * 10 + many + need; share 0; pain 0;"));
        due("17: NOISE, and no many, no need", x.hears(0, 0), 70);
        due("17: NOISE of its MINUTE", x.hears(1, 0), 0);
    }

    private static void heard() {
        WhoeverHeard x = new WhoeverHeard();
        x.promise(0, 1, 1, -1);
        x.say(0, 1);
        due("18: nobody there", x.heard(0), 0);
        x.person(0, 0, 1, 199);
        x.person(2, 9, 1, 199);
        x.person(4, 0, 1, 199);
        due("18: a CHILD hears", x.heard(0), 5);
        due("18: below", x.heard(-1), -5);
        due("18: above", x.heard(1), -5);
        x.force(Due.read(x, "heard 49 + ear; share 0; pain 0;"));
        due("18: 49 isn't CLEARLY", x.heard(0), 0);
        x.force(Due.read(x, "heard 50; share 0; pain 0;"));
        due("18: 50 is, a DEAF one's 25 isn't", x.heard(0), 5);
        x.force(Due.read(x, "heard 100; share 0; pain 0;"));
        due("18: DEAF, by 100", x.heard(0), 7);
    }

    private static void nobody() {
        WhoeverHeard x = new WhoeverHeard();
        due("19: no SAYINGS", x.nobody(), 0);
        x.promise(0, 1, 1, -1);
        x.say(0, 1);
        x.say(0, 501);
        due("19: no PEOPLE", x.nobody(), 3);
        x.person(4, 0, 1, 199);
        due("19: one", x.nobody(), 2);
        x.say(0, 509);
        due("19: 40 + 108 - 75", x.nobody(), 2);
        for (int i = 0; i < 7; i++) x.say(0, 501);
        due("19: ten SAYINGS", x.nobody(), 1018);
    }

    /** What each owes by one SAYING (LOUD 3), and the most of several. */
    private static void shares() {
        WhoeverHeard x = new WhoeverHeard();
        due("20: no such one", x.owe(0, 0), -5);
        x.person(0, 0, 1, 199);
        due("20: no such PROMISE", x.owe(0, 0), -5);
        x.person(0, 0, 2, 199);
        x.person(4, 0, 1, 199);
        x.person(0, 0, 1, 120);
        x.promise(0, 60, 1, -1);
        due("20: nothing said", x.owe(0, 0), 0);
        x.say(0, 3);
        int[] want = {60, 60, 0, 20};
        for (int p = 0; p < 4; p++) due("20: NEEDS, a CHILD nothing, one ROOM at most", x.owe(p, 0), want[p]);
        due("20: below", x.owe(-1, 0), -5);
        due("20: above", x.owe(4, 0), -5);
        due("20: below", x.owe(0, -1), -5);
        due("20: above", x.owe(0, 1), -5);
        x.force(Due.read(x, "heard 100 - far * 60; share loud * 4 + many + base * 10 + far + ear; pain 0;"));
        want = new int[] {26, 16, 0, 20};
        for (int p = 0; p < 4; p++) due("20: LOUD, how many hear it, if one can do it", x.owe(p, 0), want[p]);
        x.say(0, 2);
        due("20: a lesser one is no more", x.owe(0, 0), 26);
        x.say(0, 5);
        due("20: a larger one is, not both", x.owe(0, 0), 34);
        x.say(0, 109);
        due("20: not heard CLEARLY", x.owe(0, 0), 34);
        x.force(Due.read(x, "heard 50; share 500; pain 0;"));
        due("20: 99 at most", x.owe(0, 0), 99);
        x.force(Due.read(x, "heard 50; share - 5; pain 0;"));
        due("20: 0 at least", x.owe(0, 0), 0);
    }

    private static void contrary() {
        WhoeverHeard x = new WhoeverHeard();
        x.person(0, 0, 1, 199);
        x.promise(0, 30, 1, -1);
        x.promise(0, 20, 1, 0);
        x.promise(0, 15, 1, 0);
        x.promise(0, 9, 1, 2);
        for (int q = 0; q < 4; q++) x.say(q, 9);
        // 30 20 15 9; 1 with 0: 10 0 15 9; 2 with 0: 0 0 5 9; 3 with 2: 0 0 0 4.
        int[] want = {0, 0, 0, 4};
        for (int q = 0; q < 4; q++) due("20: struck out by numbers", x.owe(0, q), want[q]);
        due("21: each once", x.load(0, 1), 35);
        due("21: all", x.load(0, 0), 4);
        due("21: struck out isn't BEYOND", x.load(0, 2), 0);
    }

    private static void load() {
        WhoeverHeard x = new WhoeverHeard();
        due("21: no such one", x.load(0, 0), -5);
        x.person(0, 30, 1, 450);
        x.person(4, 0, 1, 950);
        x.promise(0, 30, 1, -1);
        x.promise(1, 15, 1, -1);
        x.promise(0, 10, 1, -1);
        x.promise(0, 10, 1, -1);
        x.promise(0, 4, 1, 1);
        for (int q = 3; q >= 0; q--) x.say(q, 9);
        int[] owed = {30, 15, 5, 0, 0};
        for (int q = 0; q < 5; q++) due("20: PROMISES by numbers to ROOM", x.owe(0, q), owed[q]);
        int[] want = {50, 0, 15, 200, 0};
        for (int what = 0; what < 5; what++) due("21: load(0, " + what + ")", x.load(0, what), want[what]);
        x.say(4, 9);
        want = new int[] {50, 4, 11, 200, 0};
        for (int what = 0; what < 5; what++) due("21: struck out ahead of ROOM", x.load(0, what), want[what]);
        x.unsay();
        x.unsay();
        x.unsay();
        want = new int[] {20, 0, 0, 80, 30};
        for (int what = 0; what < 5; what++) due("21: with ROOM left", x.load(0, what), want[what]);
        want = new int[] {0, 0, 0, 0, 50};
        for (int what = 0; what < 5; what++) due("21: a CHILD's", x.load(1, what), want[what]);
        due("21: below", x.load(0, -1), -7);
        due("21: above", x.load(0, 5), -7);
        due("21: no such one ahead of what", x.load(2, 5), -5);
        due("21: no such one", x.load(-1, 0), -5);
        x.force(Due.read(x, "heard 100; share need; pain need * 1000 + base + ear + loud + far + many;"));
        due("21: pain 9999 at most", x.load(0, 3), 9999);
        due("21: a CHILD's pain, too", x.load(1, 3), 9);
        x.force(Due.read(x, "heard 0; share need; pain base + ear * 10 + loud + far + many;"));
        due("21: PAINS, EAR", x.load(0, 3), 34);
        x.force(Due.read(x, "heard 0; share need; pain - base;"));
        due("21: pain 0 at least", x.load(0, 3), 0);
    }

    private static void done() {
        WhoeverHeard x = new WhoeverHeard();
        due("22: no such PROMISE", x.done(0), -5);
        x.promise(0, 30, 1, -1);
        due("22: nobody", x.done(0), 0);
        x.person(0, 0, 1, 112);
        x.person(0, 0, 254, 199);
        x.say(0, 9);
        due("22: those who can", x.done(0), 12);
        x.person(0, 0, 129, 117);
        due("22: of both", x.done(0), 29);
        x.person(0, 0, 1, 109);
        due("22: NEEDS at most", x.done(0), 30);
        due("22: below", x.done(-1), -5);
        due("22: above", x.done(1), -5);
    }

    private static void sum() {
        WhoeverHeard x = new WhoeverHeard();
        for (int what = 0; what < 4; what++) due("23: nobody", x.sum(what), 0);
        due("23: below", x.sum(-1), -2);
        due("23: above", x.sum(4), -2);
        x.person(0, 0, 3, 230);
        x.person(0, 0, 3, 340);
        x.person(4, 0, 3, 500);
        x.person(4, 0, 3, 501);
        x.promise(0, 30, 7, -1);
        x.promise(1, 20, 50, -1);
        x.promise(7, 1, 99, -1);
        due("23: ROOM 0 is full", x.sum(3), 4);
        for (int q = 0; q < 3; q++) x.say(q, 9);
        // One 0 owes 30 0 0, one 1 owes 30 10 0.
        due("23: KEPT", x.sum(0), 1);
        due("23: WORTH", x.sum(1), 7);
        due("23: pain", x.sum(2), 180);
        due("23: full ones", x.sum(3), 7);
        x.person(0, 0, 2, 199);
        // One 4 owes 30 20 1.
        due("23: KEPT", x.sum(0), 3);
        due("23: WORTH", x.sum(1), 57);
        due("23: pain", x.sum(2), 231);
        due("23: full ones", x.sum(3), 7);
    }
}
