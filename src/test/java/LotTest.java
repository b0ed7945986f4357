/** Promises 35 to 43: half heard, other texts, witnesses, lots, images. */
public final class LotTest {
    private static final long NO = -4611686018427387904L;

    public static void main(String[] args) {
        chance();
        lost();
        laws();
        witness();
        witnessByBytes();
        alibi();
        drawn();
        drawnMany();
        odds();
        oddsOfTheLastSeeds();
        image();
        imageAndThoseWhoCame();
        Due.end();
    }

    private static void due(String call, long got, long want) {
        Due.due(call, got, want);
    }

    private static void chance() {
        WhoeverHeard x = new WhoeverHeard();
        due("35: no such one", x.chance(0, 0), NO);
        x.person(0, 0, 1, 199);
        due("35: no such PROMISE", x.chance(0, 0), NO);
        x.promise(0, 10, 5, -1);
        x.promise(0, 10, 5, -1);
        due("35: nothing said", x.chance(0, 0), 0);
        x.say(0, 201);
        due("35: 52 - 30", x.chance(0, 0), 220000);
        x.say(1, 1);
        due("35: another PROMISE's", x.chance(0, 0), 220000);
        x.say(0, 101);
        due("35: times 63 by 100", x.chance(0, 0), 508600);
        x.say(0, 201);
        x.say(0, 201);
        // 491400 * 78 / 100 = 383292, 298967.76: cut.
        due("35: cut", x.chance(0, 0), 701033);
        x.say(0, 201);
        // 298967 * 78 / 100 = 233194.26 (233194.85 of what wasn't cut).
        due("35: cut one by one", x.chance(0, 0), 766806);
        due("35: below", x.chance(-1, 0), NO);
        due("35: above", x.chance(1, 0), NO);
        due("35: below", x.chance(0, -1), NO);
        due("35: above", x.chance(0, 2), NO);
        x.say(0, 9);
        due("35: surely", x.chance(0, 0), 1000000);
    }

    private static void lost() {
        WhoeverHeard x = new WhoeverHeard();
        due("36: no such PROMISE", x.lost(0), NO);
        x.promise(0, 10, 5, -1);
        due("36: nobody", x.lost(0), 1000000);
        x.person(0, 0, 1, 199);
        x.say(0, 201);
        due("36: one", x.lost(0), 780000);
        x.person(0, 0, 2, 199);
        x.person(4, 0, 1, 199);
        due("36: who can't, who isn't BOUND", x.lost(0), 780000);
        x.person(2, 0, 1, 199);
        due("36: a DEAF one, 11", x.lost(0), 694200);
        x.person(0, 10, 1, 199);
        // 25: 694200 * 75 / 100 = 520650.
        due("36: by EAR", x.lost(0), 520650);
        x.person(0, 10, 1, 100);
        x.person(0, 10, 1, 100);
        // 390487.5, 292865.25
        due("36: cut one by one", x.lost(0), 292865);
        due("36: below", x.lost(-1), NO);
        due("36: above", x.lost(1), NO);
    }

    private static void laws() {
        WhoeverHeard x = new WhoeverHeard();
        for (int what = 1; what <= 2; what++) due("37: one TEXT", x.laws(what), 0);
        due("37: all of none", x.laws(0), 1);
        due("37: below", x.laws(-1), -2);
        due("37: above", x.laws(3), -2);
        x.promise(0, 10, 5, -1);
        x.promise(0, 20, 9, -1);
        due("37: not all", x.laws(0), 0);
        due("37: still one", x.laws(1), 0);
        x.person(0, 0, 1, 299);
        x.say(0, 1);
        x.say(1, 2);
        due("37: all", x.laws(0), 1);
        Due.read(x, "heard 50; share 10; pain need;");
        Due.read(x, "heard loud * 40; share need; pain need;");
        Due.read(x, "heard 50; share 20; pain need * 4;");
        Due.read(x, "heard 50; share 15; pain 10;");
        Due.read(x, "heard 0; share 15; pain 10;");
        due("37: all, by TEXTS", x.laws(0), 9);
        due("37: most WORTH, the first", x.laws(1), 0);
        due("37: least pain, the first", x.laws(2), 4);
        due("37: THE LAW stays", x.count(5), 0);
        x.force(3);
        due("37: by another LAW", x.laws(0), 9);
        due("37: by another LAW", x.laws(1), 0);
        x.unsay();
        x.say(1, 401);
        // TEXT 0: 0 is KEPT alone; 1: 10 of 20; 2: none is heard; 3: both; 4: 0 alone; 5: none.
        due("37: all", x.laws(0), 8);
        due("37: most WORTH", x.laws(1), 3);
        due("37: least pain", x.laws(2), 2);
    }

    private static void witness() {
        WhoeverHeard x = new WhoeverHeard();
        due("38: SHEET below", x.witness(-1), -2);
        due("38: SHEET above", x.witness(4), -2);
        due("38: missing", x.witness(3), -11);
        x.sheet(3, 2, 1);
        due("38: its size", x.witness(3), -2);
        x.sheet(3, 2, 0);
        due("38: none of none", x.witness(3), -1);
        x.person(0, 0, 1, 199);
        x.person(0, 200, 1, 199);
        x.promise(0, 10, 5, -1);
        x.say(0, 1);
        due("38: its size", x.witness(3), -2);
        x.say(0, 109);
        x.say(0, 201);
        x.sheet(3, 2, 3);
        int[] bits = {1, 3, 2};
        for (int s = 0; s < 3; s++) {
            due("38: the first that others hear", x.witness(3), s);
            x.cell(3, s, bits[s]);
        }
        due("38: none", x.witness(3), -1);
        x.cell(3, 2, 1);
        due("38: another one", x.witness(3), 2);
        x.cell(3, 1, 2);
        due("38: the first", x.witness(3), 1);
        x.cell(3, 1, 3);
        x.cell(3, 2, 3);
        due("38: one who doesn't hear", x.witness(3), 2);
        x.cell(3, 2, 0);
        due("38: nobody is told", x.witness(3), 2);
    }

    private static void witnessByBytes() {
        WhoeverHeard x = new WhoeverHeard();
        for (int p = 0; p < 8; p++) x.person(0, 0, 1, 199);
        x.promise(0, 10, 5, -1);
        x.say(0, 1);
        for (int sort = 0; sort < 3; sort++) {
            x.sheet(sort, sort, 1);
            x.cell(sort, 0, 255);
            due("38: all eight, sort " + sort, x.witness(sort), -1);
        }
    }

    private static void alibi() {
        WhoeverHeard x = new WhoeverHeard();
        due("39: no such one", x.alibi(0, 9), -5);
        x.person(0, 0, 1, 199);
        x.person(0, 200, 1, 199);
        due("39: SHEET below", x.alibi(0, -1), -2);
        due("39: SHEET above", x.alibi(0, 4), -2);
        due("39: missing", x.alibi(0, 0), -11);
        x.sheet(0, 0, 1);
        due("39: its size", x.alibi(0, 0), -2);
        x.sheet(0, 0, 0);
        due("39: all PLACES", x.alibi(0, 0), 63);
        x.promise(0, 10, 5, -1);
        x.say(0, 3);
        x.say(0, 303);
        x.sheet(0, 0, 2);
        x.cell(0, 0, 1);
        x.cell(0, 1, 3);
        // LOUD 3 is heard 1 off: 0 by PLACES 0, 1; 1 by PLACES 2 .. 4.
        due("39: one 0 nowhere", x.alibi(0, 0), 0);
        x.cell(0, 1, 2);
        due("39: one 0", x.alibi(0, 0), 3);
        due("39: one 1", x.alibi(1, 0), 28);
        due("39: nobody MOVED", x.move(0, 5), -1);
        due("39: where one is now doesn't matter", x.alibi(0, 0), 3);
        due("39: that of another one does", x.alibi(1, 0), 0);
        due("39: had", x.move(0, -1), 5);
        due("39: no such one ahead of a SHEET", x.alibi(2, 9), -5);
        due("39: below", x.alibi(-1, 0), -5);
    }

    /** LOTS by SEED 0: 48271, 182605794 (71, 94 modulo 100), then 1291394886 (86), 1914720637 (37). */
    private static void drawn() {
        WhoeverHeard x = new WhoeverHeard();
        due("40: seed below", x.drawn(-1, 0), -2);
        due("40: seed above", x.drawn(100000, 0), -2);
        due("40: what below", x.drawn(0, -1), -2);
        due("40: what above", x.drawn(0, 3), -2);
        for (int what = 0; what < 3; what++) due("40: nobody", x.drawn(99999, what), 0);
        x.promise(0, 10, 5, -1);
        x.promise(0, 20, 7, -1);
        x.person(0, 0, 1, 199);
        x.person(0, 0, 1, 299);
        x.say(0, 1);
        x.say(1, 2);
        x.force(Due.read(x, "heard 72 + 15 * (loud = 2); share need; pain need * base;"));
        // 71 < 72, 94 not < 72; 86 < 87, 37 < 87.
        due("40: KEPT", x.drawn(0, 0), 3);
        due("40: WORTH", x.drawn(0, 1), 12);
        due("40: pain", x.drawn(0, 2), 70);
        x.force(Due.read(x, "heard 71 + 15 * (loud = 2); share need; pain need * base;"));
        // None of both, then one 1 alone: 86 is not less than 86.
        due("40: KEPT", x.drawn(0, 0), 2);
        due("40: WORTH", x.drawn(0, 1), 7);
        due("40: pain", x.drawn(0, 2), 40);
        x.force(Due.read(x, "heard 100; share need * many; pain need * base;"));
        due("40: all that is surely heard", x.drawn(12345, 2), 180);
        x.force(Due.read(x, "heard 0; share need; pain need * base;"));
        due("40: nothing that can't be", x.drawn(12345, 2), 0);
        due("40: what is heard stays", x.heard(0), 0);
    }

    private static void drawnMany() {
        WhoeverHeard x = new WhoeverHeard();
        x.promise(0, 10, 5, -1);
        x.person(4, 0, 1, 199);
        x.person(0, 0, 1, 199);
        x.say(0, 1);
        x.force(Due.read(x, "heard 95; share 5 + many; pain need;"));
        // 71, 94: the CHILD takes a LOT and is one of many.
        due("40: how many hear it then", x.drawn(0, 2), 7);
        x.force(Due.read(x, "heard 94; share 5 + many; pain need;"));
        due("40: the CHILD alone", x.drawn(0, 2), 0);
        // SEED 99999: 100000 * 48271 modulo 2147483647 = 532132706 (6): then 532132706 * 48271 modulo it.
        long lot = 100000L * 48271 % 2147483647;
        lot = lot * 48271 % 2147483647;
        due("40: the last SEED", x.drawn(99999, 2), lot % 100 < 94 ? 7 : 0);
    }

    private static void odds() {
        WhoeverHeard x = new WhoeverHeard();
        due("41: no such PROMISE", x.odds(0, 0, 1, 0), NO);
        x.promise(0, 10, 5, -1);
        x.promise(1, 10, 5, -1);
        x.person(0, 0, 1, 199);
        x.say(0, 1);
        x.force(Due.read(x, "heard 50; share need; pain need;"));
        // The first LOT of SEED s is 71 times (s and 1), modulo 100: 71 42 13 84 55 26 97 68 39 10: five of ten.
        due("41: 5 by 10", x.odds(0, 0, 10, 0), 1);
        due("41: 5 by 10", x.odds(0, 0, 10, 1), 2);
        due("41: 5 by 9", x.odds(0, 1, 9, 0), 5);
        due("41: 5 by 9", x.odds(0, 1, 9, 1), 9);
        due("41: 4 by 6", x.odds(0, 1, 6, 0), 1);
        due("41: 3 by 6", x.odds(0, 1, 6, 1), 2);
        due("41: none", x.odds(0, 0, 1, 0), 0);
        due("41: none", x.odds(0, 0, 1, 1), 1);
        due("41: all", x.odds(0, 1, 2, 0), 1);
        due("41: all", x.odds(0, 1, 2, 1), 1);
        due("41: another PROMISE", x.odds(1, 0, 20, 0), 0);
        due("41: another PROMISE", x.odds(1, 0, 20, 1), 1);
        due("41: the last SEED", x.odds(1, 99999, 1, 1), 1);
        due("41: the last SEEDS", x.odds(1, 99980, 20, 1), 1);
        due("41: seed above", x.odds(1, 100000, 1, 1), NO);
        due("41: seed most", x.odds(1, Integer.MAX_VALUE, 20, 1), NO);
        due("41: seed below", x.odds(1, -1, 5, 1), NO);
        due("41: no seeds", x.odds(1, 0, 0, 1), NO);
        due("41: too many", x.odds(1, 0, 21, 1), NO);
        due("41: part below", x.odds(1, 0, 1, -1), NO);
        due("41: part above", x.odds(1, 0, 1, 2), NO);
        due("41: PROMISE below", x.odds(-1, 0, 1, 0), NO);
        due("41: PROMISE above", x.odds(2, 0, 1, 0), NO);
    }

    private static void oddsOfTheLastSeeds() {
        WhoeverHeard x = new WhoeverHeard();
        x.promise(0, 10, 5, -1);
        due("41: of nobody", x.odds(0, 99999, 2, 0), 0);
        due("41: of nobody", x.odds(0, 99999, 2, 1), 1);
        x.person(0, 0, 1, 199);
        x.say(0, 1);
        x.force(Due.read(x, "heard 50; share need; pain need;"));
        // The first LOTS of SEEDS 99996 .. 99999, modulo 100: 93 64 35 6; each further seed is 99999, too.
        due("41: the last one alone", x.odds(0, 99999, 1, 0), 1);
        due("41: all by the last one", x.odds(0, 99999, 20, 0), 1);
        due("41: all by the last one", x.odds(0, 99999, 20, 1), 1);
        due("41: up to the last one", x.odds(0, 99997, 3, 0), 2);
        due("41: up to the last one", x.odds(0, 99997, 3, 1), 3);
        due("41: past the last one", x.odds(0, 99997, 5, 0), 4);
        due("41: past the last one", x.odds(0, 99997, 5, 1), 5);
        due("41: 18 by 20", x.odds(0, 99996, 20, 0), 9);
        due("41: 18 by 20", x.odds(0, 99996, 20, 1), 10);
        x.force(Due.read(x, "heard 6; share need; pain need;"));
        due("41: not by the last one", x.odds(0, 99999, 20, 0), 0);
        due("41: not by the last one", x.odds(0, 99999, 20, 1), 1);
        due("41: part above", x.odds(0, 99999, 20, 2), NO);
        due("41: too many", x.odds(0, 99999, 21, 0), NO);
        due("41: seed above", x.odds(0, 100000, 1, 0), NO);
    }

    private static void image() {
        WhoeverHeard x = new WhoeverHeard();
        due("43: none kept", x.back(), -3);
        x.promise(0, 10, 5, -1);
        x.person(0, 0, 1, 199);
        x.person(0, 0, 1, 199);
        Due.read(x, "heard 1; share 1; pain 1;");
        x.far(0, 5, 1);
        x.hush(4, 8);
        x.stride(6);
        x.move(0, 3);
        x.say(0, 1);
        x.say(0, 234);
        x.force(1);
        due("42: two SAYINGS", x.image(), 2);
        x.far(5, 0, 2);
        x.hush(4, 0);
        x.stride(1);
        x.move(0, -1);
        x.move(1, 4);
        x.unsay();
        x.say(0, 555);
        x.say(0, 555);
        x.force(0);
        x.sheet(0, 0, 1);
        x.feed(1, 1, 1, 1, 1, 1);
        for (int time = 0; time < 2; time++) {
            due("43: two SAYINGS", x.back(), 2);
            due("43: HOW FAR", x.far(0, 5, 0), 1);
            due("43: NOISE", x.hush(4, 0), 8);
            due("43: STRIDE", x.stride(0), 6);
            due("43: who MOVED", x.move(0, 0), 3);
            due("43: who didn't", x.move(1, 0), -1);
            due("43: THE LAW", x.force(0), 1);
            due("43: SAYINGS", x.said(0, 3), 1);
            due("43: SAYINGS", x.said(1, 1) * 100 + x.said(1, 2) * 10 + x.said(1, 3), 234);
            due("43: no more", x.said(2, 0), -5);
            due("43: SHEETS stay", x.cell(0, 0, 0), 1);
            due("43: THE TAPE stays", x.count(6), 1);
            x.unsay();
            x.unsay();
        }
        due("42: a later one", x.image(), 0);
        due("43: a later one", x.back(), 0);
        due("43: a later one", x.told(0, 7), 0);
    }

    private static void imageAndThoseWhoCame() {
        WhoeverHeard x = new WhoeverHeard();
        due("42: of nothing", x.image(), 0);
        x.person(0, 100, 1, 199);
        x.move(0, 3);
        x.promise(0, 10, 5, -1);
        Due.read(x, "heard 1; share 1; pain 1;");
        x.say(0, 1);
        due("43: of nothing", x.back(), 0);
        due("43: PEOPLE stay", x.count(1), 1);
        due("43: PROMISES stay", x.count(2), 1);
        due("43: TEXTS stay", x.count(4), 2);
        due("43: as they are", x.told(0, 7), 3);
    }
}
