/** Counts the answers that are not as due. */
final class Due {
    private static int wrong = 0;
    private static int asked = 0;

    private Due() { }

    static void due(String call, long got, long want) {
        asked++;
        if (got != want) {
            wrong++;
            System.out.println(call + " answered " + got + ", due is " + want);
        }
    }

    /** Feeds a text to the tape, in parts of five bytes at most. */
    static void feed(WhoeverHeard x, String text) {
        int[] b = new int[5];
        for (int at = 0; at < text.length(); at += 5) {
            int n = Math.min(5, text.length() - at);
            for (int i = 0; i < 5; i++) b[i] = i < n ? text.charAt(at + i) : 0;
            x.feed(n, b[0], b[1], b[2], b[3], b[4]);
        }
    }

    static int read(WhoeverHeard x, String text) {
        feed(x, text);
        return x.text();
    }

    static void end() {
        System.out.println(asked + " answers, " + wrong + " not as due");
        if (wrong != 0) System.exit(1);
    }
}
