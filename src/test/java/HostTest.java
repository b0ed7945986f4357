/** Promises 44 to 48: sheets, and what is taken. */
public final class HostTest {
    private static final int MAX = Integer.MAX_VALUE, MIN = Integer.MIN_VALUE;

    public static void main(String[] args) {
        sheet();
        cell();
        narrowCells();
        copy();
        copyItself();
        promisesBy();
        promisesByTooMany();
        taken();
        Due.end();
    }

    private static void due(String call, long got, long want) {
        Due.due(call, got, want);
    }

    private static void sheet() {
        WhoeverHeard x = new WhoeverHeard();
        due("44: SHEET below", x.sheet(-1, 0, 1), -2);
        due("44: SHEET above", x.sheet(4, -1, 1), -2);
        due("44: sort below", x.sheet(0, -2, 1), -2);
        due("44: sort above", x.sheet(0, 3, -1), -2);
        due("44: n above", x.sheet(0, 0, 41), -2);
        due("44: n most", x.sheet(0, 0, MAX), -2);
        due("44: n below", x.sheet(0, 0, -1), -14);
        due("44: n least", x.sheet(0, 2, MIN), -14);
        due("44: still missing", x.cell(0, 0, 0), -11);
        for (int s = 0; s < 4; s++) due("44: 40", x.sheet(s, s % 3, 40), 1);
        for (int s = 0; s < 4; s++) due("44: its last one", x.cell(s, 39, 1), 1);
        due("44: refused changes nothing", x.sheet(0, 0, 41), -2);
        due("44: as it was", x.cell(0, 39, 1), 1);
        due("44: of none", x.sheet(1, 1, 0), 1);
        due("44: of none", x.cell(1, 0, 1), -12);
        due("44: missing", x.sheet(1, -1, 99), 1);
        due("44: missing", x.cell(1, 0, 1), -11);
        due("44: missing still", x.sheet(1, -1, -99), 1);
        x.sheet(0, 2, 4);
        for (int i = 0; i < 4; i++) x.cell(0, i, i + 1);
        x.sheet(0, 2, 8);
        due("44: all 0", x.promisesBy(0, 2, 0, 2), 0);
    }

    private static void cell() {
        WhoeverHeard x = new WhoeverHeard();
        due("45: SHEET below", x.cell(-1, 0, 0), -2);
        due("45: SHEET above", x.cell(4, 0, 0), -2);
        due("45: missing, ahead of the place", x.cell(0, -1, 0), -11);
        x.sheet(0, 2, 3);
        due("45: place below", x.cell(0, -1, 0), -12);
        due("45: place above", x.cell(0, 3, 0), -12);
        due("45: place most", x.cell(0, MAX, 0), -12);
        due("45: the last one", x.cell(0, 2, MIN), 1);
    }

    /** A row of one promise, of a sort, each number put so. */
    private static int promiseBy(WhoeverHeard x, int sort, int w, int n, int v, int against) {
        x.sheet(0, sort, 4);
        x.cell(0, 0, w);
        x.cell(0, 1, n);
        x.cell(0, 2, v);
        x.cell(0, 3, against);
        return x.promisesBy(0, sort, 0, 1);
    }

    private static void narrowCells() {
        WhoeverHeard x = new WhoeverHeard();
        due("45: a byte's lowest 8", promiseBy(x, 0, 256 + 3, 512 + 99, -256 + 7, 255), 1);
        int[] want = {3, 99, 7, -1};
        for (int what = 0; what < 4; what++) due("45: a byte", x.promised(0, what), want[what]);
        due("45: a short's lowest 16", promiseBy(x, 1, 65536 + 3, 131072 + 99, -65536 + 7, 65535), 1);
        for (int what = 0; what < 4; what++) due("45: a short", x.promised(1, what), want[what]);
        due("45: an int's all", promiseBy(x, 2, 3, 99, 7, -1), 1);
        due("45: an int's all", promiseBy(x, 2, 65536 + 3, 99, 7, -1), 0);
        due("45: a short keeps more than 8", promiseBy(x, 1, 256 + 3, 99, 7, -1), 0);
        due("45: a byte's 128 is below 0", promiseBy(x, 0, 3, 128, 7, -1), 0);
        due("45: three came", x.count(2), 3);
    }

    private static void copy() {
        WhoeverHeard x = new WhoeverHeard();
        due("46: SHEET below", x.copy(-1, 0, 0, 0, 0), -2);
        due("46: SHEET above", x.copy(4, 0, 0, 0, 0), -2);
        due("46: other below", x.copy(0, 0, -1, 0, 0), -2);
        due("46: other above", x.copy(0, 0, 4, 0, 0), -2);
        due("46: both missing", x.copy(0, 0, 1, 0, 0), -11);
        x.sheet(0, 2, 5);
        due("46: other missing", x.copy(0, -1, 1, 0, 0), -11);
        due("46: one missing", x.copy(1, 0, 0, 0, 0), -11);
        x.sheet(1, 1, 5);
        due("46: unlike sorts ahead of places", x.copy(0, -1, 1, 0, 0), -13);
        x.sheet(1, 2, 8);
        due("46: n below", x.copy(0, 0, 1, 0, -1), -12);
        due("46: n least", x.copy(0, 0, 1, 0, MIN), -12);
        due("46: n most", x.copy(0, 0, 1, 0, MAX), -12);
        due("46: i below", x.copy(0, -1, 1, 0, 1), -12);
        due("46: j below", x.copy(0, 0, 1, -1, 1), -12);
        due("46: i above", x.copy(0, 1, 1, 0, 5), -12);
        due("46: i most", x.copy(0, MAX, 1, 0, 5), -12);
        due("46: j above", x.copy(0, 0, 1, 4, 5), -12);
        due("46: j most", x.copy(0, 0, 1, MAX, 1), -12);
        due("46: none", x.copy(0, 5, 1, 8, 0), 0);
        due("46: none, outside", x.copy(0, 6, 1, 0, 0), -12);
        due("46: none, outside", x.copy(0, 0, 1, 9, 0), -12);
        int[] row = {9, 2, 11, 33, -1};
        for (int i = 0; i < 5; i++) x.cell(0, i, row[i]);
        due("46: four", x.copy(0, 1, 1, 4, 4), 4);
        due("46: they came", x.promisesBy(1, 2, 4, 1), 1);
        int[] want = {2, 11, 33, -1};
        for (int what = 0; what < 4; what++) due("46: they came", x.promised(0, what), want[what]);
        due("46: what they came from stays", x.promisesBy(0, 2, 1, 1), 1);
        due("46: nothing else came", x.promisesBy(1, 2, 0, 1), 0);
        x.sheet(3, 2, 5);
        due("46: to the last SHEET", x.copy(0, 0, 3, 0, 5), 5);
        x.cell(0, 1, 0);
        due("46: from the last SHEET", x.copy(3, 0, 0, 0, 5), 5);
        due("47: by the last SHEET", x.promisesBy(3, 2, 1, 1), 1);
        due("46: it came back", x.promisesBy(0, 2, 1, 1), 1);
    }

    private static void copyItself() {
        for (int to = 0; to <= 2; to += 2) {
            WhoeverHeard x = new WhoeverHeard();
            x.sheet(2, 0, 6);
            int from = 2 - to;
            int[] row = {5, 6, 7, -1};
            for (int i = 0; i < 4; i++) x.cell(2, from + i, row[i]);
            due("46: its own", x.copy(2, from, 2, to, 4), 4);
            due("46: as they were", x.promisesBy(2, 0, to, 1), 1);
            for (int what = 0; what < 4; what++) due("46: as they were", x.promised(0, what), row[what]);
        }
    }

    private static void promisesBy() {
        WhoeverHeard x = new WhoeverHeard();
        due("47: SHEET below", x.promisesBy(-1, 0, 0, 0), -2);
        due("47: SHEET above", x.promisesBy(4, 0, 0, 0), -2);
        due("47: sort below", x.promisesBy(0, -1, 0, 0), -2);
        due("47: sort above", x.promisesBy(0, 3, 0, 0), -2);
        due("47: n below", x.promisesBy(0, 0, 0, -1), -2);
        due("47: n above", x.promisesBy(0, 0, 0, 9), -2);
        due("47: missing", x.promisesBy(0, 0, -1, 1), -11);
        x.sheet(0, 1, 11);
        due("47: unlike, ahead of the place", x.promisesBy(0, 0, -1, 1), -13);
        due("47: place below", x.promisesBy(0, 1, -1, 1), -12);
        due("47: place least", x.promisesBy(0, 1, MIN, 8), -12);
        due("47: place most", x.promisesBy(0, 1, MAX, 8), -12);
        due("47: not four there", x.promisesBy(0, 1, 8, 1), -12);
        due("47: none", x.promisesBy(0, 1, 0, 0), 0);
        int[] row = {1, 10, 20, -1, 2, 11, 21, 0, 3, 12, 22};
        for (int i = 0; i < 11; i++) x.cell(0, i, row[i]);
        due("47: two", x.promisesBy(0, 1, 0, 2), 2);
        for (int q = 0; q < 2; q++) {
            for (int what = 0; what < 4; what++) due("47: as of promise()", x.promised(q, what), row[4 * q + what]);
        }
        due("47: what stood ahead came", x.promisesBy(0, 1, 0, 3), -12);
        due("47: two more", x.count(2), 4);
        x.cell(0, 1, 0);
        due("47: others are left out", x.promisesBy(0, 1, 0, 2), 1);
        due("47: the second came", x.promised(4, 0), 2);
        due("47: from a place on", x.promisesBy(0, 1, 4, 1), 1);
        due("47: from a place on", x.promised(5, 3), 0);
    }

    private static void promisesByTooMany() {
        WhoeverHeard x = new WhoeverHeard();
        x.sheet(0, 0, 40);
        for (int k = 0; k < 8; k++) {
            x.cell(0, 4 * k + 1, k + 1);
            x.cell(0, 4 * k + 3, k - 1);
        }
        due("47: each CONTRARY to the one ahead", x.promisesBy(0, 0, 0, 7), 7);
        due("47: the eighth, then FULL", x.promisesBy(0, 0, 0, 8), 1);
        due("47: the eighth", x.promised(7, 1), 1);
        due("47: FULL", x.promisesBy(0, 0, 0, 8), 0);
        due("47: FULL and outside", x.promisesBy(0, 0, 12, 8), -12);
        due("47: eight", x.count(2), 8);
    }

    private static void taken() {
        WhoeverHeard x = new WhoeverHeard();
        due("48: kind below", x.taken(0, -1), -2);
        due("48: kind above, ahead of i", x.taken(-1, 7), -2);
        due("48: i below", x.taken(-1, 0), -12);
        due("48: i above", x.taken(16, 6), -12);
        due("48: i most", x.taken(MAX, 0), -12);
        for (int i = 0; i < 16; i++) due("48: nothing", x.taken(i, i % 7), -11);
        x.promise(0, 37, 1, -1);
        for (int kind = 0; kind < 6; kind++) {
            x.person(kind, 0, 1, 199);
            due("48: a PROMISE isn't a PERSON", x.taken(0, kind), -13);
        }
        due("48: how much it NEEDS", x.taken(0, 6), 37);
        int[] isA = {1, 3, 5, 11, 17, 35};
        for (int p = 0; p < 6; p++) {
            due("48: a PERSON isn't a PROMISE", x.taken(8 + p, 6), -13);
            for (int kind = 0; kind < 6; kind++) {
                due("48: " + p + " for " + kind, x.taken(8 + p, kind), (isA[p] >> kind & 1) == 1 ? p : -13);
            }
        }
        due("48: nothing ahead of kinds", x.taken(1, 0), -11);
        due("48: nothing ahead of kinds", x.taken(14, 6), -11);
    }
}
