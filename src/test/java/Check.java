/** Counts the answers that are as due, and prints the others. */
final class Check {
    static final long NOT = -9000000000000000000L;
    static final long BAD = NOT - 1;
    static final long STATE = NOT - 2;
    static final long FULL = NOT - 3;
    static final long NULL = NOT - 11;
    static final long PLACE = NOT - 12;
    static final long KIND = NOT - 13;
    static final long SIZE = NOT - 14;
    static final long STORE = NOT - 15;
    static final long NONE = -1000000L;

    private static final int MOST_TOLD = 20;

    private final String name;
    private int right;
    private int wrong;

    Check(String name) {
        this.name = name;
    }

    void due(String call, long got, long want) {
        if (got == want) {
            right++;
            return;
        }
        wrong++;
        if (wrong > MOST_TOLD) {
            return;
        }
        System.out.println(name + ": " + call + " answered " + got + ", due is " + want);
    }

    /** A call that is due to answer so, and to leave status() as told. */
    void dueStatus(WoodForTwo x, String call, long got, long want, int status) {
        due(call, got, want);
        due(call + ", then status()", x.status(), status);
    }

    void end() {
        System.out.println(name + ": " + right + " as due, " + wrong + " not");
        if (wrong != 0 || right == 0) {
            System.exit(1);
        }
    }

    /** Feeds a text, eight bytes a call, and answers the last call's answer. */
    static long feed(WoodForTwo x, String text) {
        long answer = 0;
        for (int at = 0; at < text.length(); at += 8) {
            int n = Math.min(8, text.length() - at);
            long w = 0;
            for (int i = 0; i < n; i++) {
                w = w << 8 | text.charAt(at + i) & 255;
            }
            answer = x.feed(w, n);
        }
        return answer;
    }

    /** Feeds a text and reads it. */
    static long read(WoodForTwo x, String text) {
        feed(x, text);
        return x.pass();
    }

    /** A new object with a pass. */
    static WoodForTwo with(String text) {
        WoodForTwo x = new WoodForTwo();
        if (read(x, text) < 0) {
            throw new IllegalStateException("a test's own text has a fault: " + text);
        }
        return x;
    }

    /** A row of ints with these items. */
    static void fill(WoodForTwo x, int row, int... items) {
        x.row(row, 2, items.length);
        for (int i = 0; i < items.length; i++) {
            x.set(row, i, items[i]);
        }
    }

    /** Looks at a row's items (0 to 999), one by one, by copies into a row of pairs, row 6. */
    void isRow(WoodForTwo x, int row, int... items) {
        x.row(6, 2, 2);
        for (int i = 0; i < items.length; i++) {
            x.copy(row, i, 6, 0, 1);
            x.set(6, 1, items[i]);
            boolean more = x.lies(6, 1, 0) != 0;
            x.copy(row, i, 6, 1, 1);
            x.set(6, 0, items[i]);
            boolean fewer = x.lies(6, 1, 0) != 0;
            due("item " + i + " of row " + row + " is " + items[i], more || fewer ? 0 : 1, 1);
        }
    }

    /** What a caller can see but the rows' items, in one text; some 40 calls, and 7 for each party. */
    static String seen(WoodForTwo x) {
        return seenButStatus(x) + " status " + x.status();
    }

    static String seenButStatus(WoodForTwo x) {
        StringBuilder all = new StringBuilder();
        for (int what = 0; what <= 6; what++) {
            all.append(x.count(what)).append(' ');
        }
        for (int law = 0; law <= 2; law++) {
            for (int m = 1; m <= 9; m += 4) {
                all.append(x.due(law, m)).append(' ');
            }
        }
        long parties = x.count(1);
        for (int p = 0; p < parties; p++) {
            for (int what = 0; what <= 5; what++) {
                all.append(x.party(p, what)).append(' ');
            }
            all.append(x.kind(p)).append(' ');
        }
        for (int what = 0; what <= 1; what++) {
            all.append(x.safe(20, 2, 1, what)).append(' ');
        }
        // By this the law as told is seen.
        all.append(x.carry(60, 0, 2)).append(' ');
        for (int i = 0; i < 16; i++) {
            all.append(x.trace(i)).append(' ');
        }
        return all.append("fault ").append(x.fault()).toString();
    }

    /** A call that is due to change nothing that can be seen, but status(). */
    void same(String call, String before, String after) {
        due(call + " changes nothing", before.equals(after) ? 1 : 0, 1);
    }
}
