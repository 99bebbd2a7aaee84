/** What the tests share: it prints every answer that is not as due, and ends with exit code 1 then. */
final class Check {
    private int wrong = 0;
    private int made = 0;

    void due(String call, long got, long want) {
        made++;
        if (got != want) {
            wrong++;
            System.out.println(call + " answered " + got + ", due is " + want);
        }
    }

    void so(String what, boolean holds) {
        due(what, holds ? 1 : 0, 1);
    }

    void end() {
        System.out.println(wrong == 0 ? made + " answers are as due" : wrong + " answers are not as due");
        if (wrong != 0) {
            System.exit(1);
        }
    }

    /** Puts a text on the tape, by feeds of up to four bytes. */
    static void feedText(ColdLine x, String text) {
        for (int i = 0; i < text.length(); i += 4) {
            int n = Math.min(4, text.length() - i);
            int bytes = 0;
            for (int k = 0; k < n; k++) {
                bytes = bytes << 8 | text.charAt(i + k) & 255;
            }
            x.feed(bytes, n);
        }
    }

    /** The answer of rule() to a text on an empty tape. */
    static int ruleOf(ColdLine x, String text, int from, int to) {
        x.wipe();
        feedText(x, text);
        return x.rule(from, to);
    }

    /** A line whose two stations have the same heat outside in every hour. */
    static ColdLine lineAt(int heat) {
        ColdLine x = new ColdLine();
        x.weather(0, 0, heat);
        x.weather(1, 0, heat);
        return x;
    }
}
