/** Promises 1 to 8: a new object, the town, TEXTS, THE LAW. */
public final class TownTest {
    private static final String REST = "; share need; pain need;";

    public static void main(String[] args) {
        newObject();
        far();
        hush();
        stride();
        count();
        feed();
        text();
        faults();
        openOnes();
        values();
        force();
        Due.end();
    }

    private static void due(String call, long got, long want) {
        Due.due(call, got, want);
    }

    private static void newObject() {
        WhoeverHeard x = new WhoeverHeard();
        int[] first = {2, 0, 0, 0, 1, 0, 0};
        for (int what = 0; what <= 6; what++) due("1: count(" + what + ")", x.count(what), first[what]);
        due("1: told(0, 0)", x.told(0, 0), -5);
        due("1: promised(0, 0)", x.promised(0, 0), -5);
        due("1: said(0, 0)", x.said(0, 0), -5);
        due("1: cell(0, 0, 0)", x.cell(0, 0, 0), -11);
        due("1: back()", x.back(), -3);
    }

    private static void far() {
        WhoeverHeard x = new WhoeverHeard();
        for (int u = 0; u < 6; u++) {
            for (int v = u + 1; v < 6; v++) {
                due("2: far at first", x.far(u, v, v - u), v - u);
                due("2: far either way", x.far(v, u, 9 - v), v - u);
                due("2: far was", x.far(u, v, 0), 9 - v);
                due("2: far was 0", x.far(v, u, 9), 0);
            }
        }
        due("2: alike", x.far(3, 3, 1), -1);
        due("2: alike ahead of d", x.far(3, 3, 10), -1);
        due("2: u below", x.far(-1, 3, 1), -1);
        due("2: u above", x.far(6, 3, 10), -1);
        due("2: v below", x.far(3, -1, 1), -1);
        due("2: v above", x.far(3, 6, -1), -1);
        due("2: least u", x.far(Integer.MIN_VALUE, 0, 0), -1);
        due("2: most v", x.far(0, Integer.MAX_VALUE, 0), -1);
        due("2: d above", x.far(0, 1, 10), -2);
        due("2: d below", x.far(0, 1, -1), -2);
        due("2: refused changes nothing", x.far(0, 1, 5), 9);
    }

    private static void hush() {
        WhoeverHeard x = new WhoeverHeard();
        for (int t = 0; t < 6; t++) {
            due("3: hush at first", x.hush(t, 9 - t), 0);
            due("3: hush was", x.hush(t, 0), 9 - t);
        }
        due("3: t below", x.hush(-1, 0), -1);
        due("3: t above, ahead of v", x.hush(6, 10), -1);
        due("3: v below", x.hush(0, -1), -2);
        due("3: v above", x.hush(0, 10), -2);
        due("3: refused changes nothing", x.hush(0, 0), 0);
    }

    private static void stride() {
        WhoeverHeard x = new WhoeverHeard();
        due("4: stride at first", x.stride(9), 2);
        due("4: stride was", x.stride(0), 9);
        due("4: below", x.stride(-1), -2);
        due("4: above", x.stride(10), -2);
        due("4: stride", x.count(0), 0);
    }

    private static void count() {
        WhoeverHeard x = new WhoeverHeard();
        x.stride(7);
        x.person(0, 0, 1, 199);
        x.promise(0, 1, 1, -1);
        x.promise(0, 1, 1, -1);
        for (int i = 0; i < 3; i++) x.say(0, 1);
        for (int i = 0; i < 3; i++) Due.read(x, "heard 1" + REST);
        x.force(2);
        Due.feed(x, "pains");
        int[] want = {7, 1, 2, 3, 4, 2, 5};
        for (int what = 0; what <= 6; what++) due("5: count(" + what + ")", x.count(what), want[what]);
        due("5: below", x.count(-1), -2);
        due("5: above", x.count(7), -2);
    }

    private static void feed() {
        WhoeverHeard x = new WhoeverHeard();
        due("6: five", x.feed(5, 0, 255, 32, 10, 97), 5);
        due("6: one", x.feed(1, 97, 0, 0, 0, 0), 6);
        due("6: none", x.feed(0, 97, 0, 0, 0, 0), -2);
        due("6: six", x.feed(6, 97, 0, 0, 0, 0), -2);
        due("6: a", x.feed(1, -1, 0, 0, 0, 0), -2);
        due("6: b that does not come", x.feed(1, 0, 256, 0, 0, 0), -2);
        due("6: c that does not come", x.feed(1, 0, 0, -1, 0, 0), -2);
        due("6: d that does not come", x.feed(1, 0, 0, 0, 256, 0), -2);
        due("6: e that does not come", x.feed(1, 0, 0, 0, 0, -1), -2);
        due("6: nothing came", x.count(6), 6);
        for (int i = 0; i < 30; i++) x.feed(5, 1, 2, 3, 4, 5);
        due("6: 156", x.count(6), 156);
        due("6: not all have room", x.feed(5, 1, 2, 3, 4, 5), -4);
        due("6: none came", x.count(6), 156);
        due("6: BAD ahead of FULL", x.feed(5, 1, 2, 3, 4, 256), -2);
        due("6: four", x.feed(4, 1, 2, 3, 4, 5), 160);
        due("6: no room", x.feed(1, 1, 2, 3, 4, 5), -4);
    }

    private static void text() {
        WhoeverHeard x = new WhoeverHeard();
        due("7: a TEXT", Due.read(x, "heard 1; share 2; pain 3;"), 1);
        due("7: THE TAPE is empty", x.count(6), 0);
        due("7: as tight as can be", Due.read(x, "heard1;share2;pain3;"), 2);
        due("7: blanks", Due.read(x, "  heard\n1 ;\n\nshare(2);pain-3 ; \n"), 3);
        due("7: a FAULT", Due.read(x, "heard 1; share 2; pian 3;"), -118);
        due("7: by a FAULT, too", x.count(6), 0);
        due("7: the bytes come in order", Due.read(x, "heard base*many-need+ear*far-loud;share 0;pain 0;"), 4);
        due("7: the sixth", Due.read(x, "heard 1; share 2; pain 3;"), 5);
        due("7: FULL", Due.read(x, "heard 1; share 2; pain 3;"), -4);
        due("7: THE TAPE stays", x.count(6), 25);
        due("7: FULL ahead of a FAULT", Due.read(x, "?"), -4);
        due("7: THE TAPE stays", x.count(6), 26);
        StringBuilder whole = new StringBuilder("heard 1; share 2; pain 3;");
        while (whole.length() < 160) whole.append("\n ");
        due("7: 160 bytes", Due.read(new WhoeverHeard(), whole.substring(0, 160)), 1);
        StringBuilder sums = new StringBuilder("heard loud");
        while (sums.length() < 139) sums.append("+1");
        due("7: a long E", Due.read(new WhoeverHeard(), sums + ";share 0;pain 0;"), 1);
    }

    private static void fault(String text, int place) {
        due("7: FAULT of '" + text + "'", Due.read(new WhoeverHeard(), text), place < 0 ? 1 : -100 - place);
    }

    private static void heardFault(String e, int place) {
        fault("heard " + e + REST, place < 0 ? -1 : place + 6);
    }

    private static void faults() {
        fault("", 0);
        fault("  \n", 3);
        fault("heard", 5);
        fault("heard ", 6);
        fault("heard 1", 7);
        fault("heard 1;", 8);
        fault("heard 1; share 2; pain 3", 24);
        fault("heard 1; share 2; pain 3 \n", 26);
        fault("heard 1; share 2; pain 3; ;", 26);
        fault("heard 1; share 2; pain 3; heard", 26);
        fault("heard 1; share 2; pain 3;\t", 25);
        fault("share 1;", 0);
        fault("heard 1; pain 2;", 9);
        fault("heard 1 share", 8);
        fault("Heard 1;", 0);
        fault("heardloud;", 0);
        fault("hear 1;", 0);
        fault("7", 0);
        heardFault("loud", -1);
        heardFault("far + ear * need - many = base", -1);
        heardFault("lou", 0);
        heardFault("louder", 0);
        heardFault("1loud", 1);
        heardFault("loud2", 4);
        heardFault("9999", -1);
        heardFault("0000", -1);
        heardFault("12345", 0);
        heardFault("1 + 00001", 4);
        heardFault("1 2", 2);
        heardFault("pain", 0);
        heardFault("#", 0);
        heardFault("1 \r", 2);
        for (char sign = 0; sign < 256; sign++) {
            boolean known = sign == ' ' || sign == '\n' || "();+-*<=".indexOf(sign) >= 0
                || sign >= '0' && sign <= '9' || sign >= 'a' && sign <= 'z';
            if (known) continue;
            fault(sign + " 1; share 2; pain 3;", 0);
            heardFault(sign + "", 0);
            heardFault("1 " + sign + " 1", 2);
            heardFault("1" + sign, 1);
        }
        fault("a".repeat(160), 0);
        fault("1".repeat(160), 0);
        fault(" ".repeat(160), 160);
        fault("(".repeat(160), 0);
        fault("heard" + "(".repeat(155), 10);
        fault("heard " + "(".repeat(5) + "1 ".repeat(74) + " ", 13);
        heardFault("1 + ", 4);
        heardFault("* 1", 0);
        heardFault("1 * * 1", 4);
        heardFault("+ 1", 0);
        heardFault("1 - - 1", -1);
        heardFault("1 < 2 < 3", 6);
        heardFault("1 = 2 < 3", 6);
        heardFault("(1 < 2) < 3", -1);
        heardFault("1 < not 2", 4);
        heardFault("1 and not 2 or not not 3", -1);
        heardFault("1 or", 4);
        heardFault("and 1", 0);
        heardFault("1 + not 2", 4);
        heardFault("- not 2", 2);
        heardFault("()", 1);
        heardFault("(1", 2);
        heardFault("(1))", 3);
        heardFault(")", 0);
        heardFault("(1;)", 2);
        heardFault("(1 or 2) and (3)", -1);
    }

    private static void openOnes() {
        heardFault("(((((1)))))", -1);
        heardFault("((((((1))))))", 5);
        heardFault("- - - - - 1", -1);
        heardFault("- - - - - - 1", 10);
        heardFault("not not not not not 1", -1);
        heardFault("not not not not not not 1", 20);
        heardFault("not ( - ( not 1 ) )", -1);
        heardFault("not ( - ( not ( 1 ) ) )", 14);
        heardFault("not ( - ( not - 1 ) )", 14);
        heardFault("not ( - ( - ( 1 ) ) )", 12);
        heardFault("- - - - - 1 - - - - - - 1 + - - - - - 1", -1);
        heardFault("not not not not not 1 and not not not not not 1", -1);
        heardFault("(((((1))))) * (((((1)))))", -1);
        heardFault("not not not not not 1 < -1", 24);
        heardFault("not not not not - 1 < -1", -1);
        heardFault("not not not not not 1 or -1", -1);
        heardFault("((((- 1 - 1))))", -1);
        heardFault("((((- - 1))))", 6);
        heardFault("(((((1 - 1)))))", -1);
    }

    /** How well one hears tells an E's value; one is 3 PLACES off, has EAR 4, and it is said with LOUD 7, NOISE 5. */
    private static void value(String e, int want) {
        WhoeverHeard x = new WhoeverHeard();
        x.person(0, 340, 1, 199);
        x.promise(0, 9, 1, -1);
        x.hush(2, 5);
        x.say(0, 27);
        x.force(Due.read(x, "heard " + e + REST));
        due("7: '" + e + "'", x.hears(0, 0), want);
    }

    private static void values() {
        value("loud", 7);
        value("far", 3);
        value("ear", 4);
        value("base", 5);
        value("need + many", 0);
        value("2 + 3 * 4", 14);
        value("(2 + 3) * 4", 20);
        value("9 - 3 - 2", 4);
        value("9 - (3 - 2)", 8);
        value("- 3 * - 5", 15);
        value("- - 8", 8);
        value("9 + - 2", 7);
        value("9 + 5 * - - 2", 19);
        value("9 + (not 0)", 10);
        value("9 + (not 4)", 9);
        value("7 + (2 < 3)", 8);
        value("7 + (3 < 3)", 7);
        value("7 + (3 = 3)", 8);
        value("7 + (3 = 2)", 7);
        value("2 < 3 + 1", 1);
        value("1 + 2 = 3", 1);
        value("-1 < 0", 1);
        value("5 or 0", 1);
        value("0 or 0", 0);
        value("0 or -1", 1);
        value("5 and 7", 1);
        value("5 and 0", 0);
        value("0 and 5", 0);
        value("1 or 0 and 0", 1);
        value("(1 or 0) and 0", 0);
        value("not 0", 1);
        value("not 5", 0);
        value("not not 5", 1);
        value("not 1 < 0", 1);
        value("not 0 and 0", 0);
        value("9999 * 9999 * 43 = 4172 * 1000 + 747", 1);
        value("9999 * 9999 * 22 < 0", 1);
        value("-(9999 * 9999 * 22) < 0", 0);
        value("100", 100);
        value("101", 100);
        value("0 - 1", 0);
    }

    private static void force() {
        WhoeverHeard x = new WhoeverHeard();
        due("8: the one there is", x.force(0), 0);
        due("8: none such", x.force(1), -2);
        due("8: below", x.force(-1), -2);
        Due.read(x, "heard 1" + REST);
        Due.read(x, "heard 2" + REST);
        due("8: was", x.force(2), 0);
        due("8: was", x.force(1), 2);
        due("8: above", x.force(3), -2);
        due("8: THE LAW", x.count(5), 1);
    }
}
