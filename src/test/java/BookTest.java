/** Promises 17 and 18: broke, lies. */
public final class BookTest {
    private static final Check c = new Check("BookTest");

    public static void main(String[] args) {
        brokeByHand();
        brokeByEachLaw();
        brokeOfMany();
        brokeRefused();
        liesByHand();
        liesRefused();
        c.end();
    }

    private static void brokeByHand() {
        WoodForTwo x = Check.with("hut 1 2 head 1;");
        // Three heads burn 6 and owe 6.
        night(x, 3, 20, 20, 0);
        night(x, 3, 20, 21, 0);
        night(x, 3, 20, 19, 1);
        night(x, 3, 20, 14, 6);
        // More is gone than they burnt: what was left is below 0.
        night(x, 3, 20, 10, 10);
        night(x, 3, 999, 0, 999);
        // They burn what there is, so all in the morning was left.
        night(x, 3, 4, 6, 0);
        night(x, 3, 4, 5, 1);
        night(x, 3, 0, 0, 6);
        night(x, 3, 6, 6, 0);
        night(x, 3, 7, 6, 1);
        night(x, 9, 999, 999, 0);
        night(x, 9, 999, 998, 1);
        night(x, 1, 0, 999, 0);
    }

    private static void night(WoodForTwo x, int heads, int evening, int morning, int lacks) {
        Check.fill(x, 0, heads, evening, morning);
        String told = heads + " heads, " + evening + ", " + morning;
        c.due("broke, who: " + told, x.broke(0, 1, 0), lacks > 0 ? 1 : 0);
        c.due("broke, how much: " + told, x.broke(0, 1, 1), lacks);
    }

    private static void brokeByEachLaw() {
        String[] laws = {"head", "flat", "less"};
        int[] owed = {2 * 4 * 3, 2 * 3, 2 * 3 + 3 * 3 / 2};
        for (int law = 0; law < 3; law++) {
            WoodForTwo x = Check.with("hut 1 3 " + laws[law] + " 2;");
            Check.fill(x, 0, 4, 50, 38);
            c.due("broke by " + laws[law], x.broke(0, 1, 1), owed[law]);
            x.set(0, 2, 38 + owed[law]);
            c.due("kept by " + laws[law], x.broke(0, 1, 0), 0);
        }
    }

    private static void brokeOfMany() {
        WoodForTwo x = Check.with("hut 1 1 flat 5;");
        int[] items = new int[40];
        long who = 0;
        long lacks = 0;
        for (int k = 0; k < 13; k++) {
            items[3 * k] = 1 + k % 9;
            items[3 * k + 1] = 100;
            items[3 * k + 2] = 100 - 1 - k % 9 + (k % 3 == 0 ? k : 5);
            if (k % 3 == 0 && k < 5) {
                who |= 1L << k;
                lacks += 5 - k;
            }
        }
        items[39] = -5;
        Check.fill(x, 1, items);
        c.due("13 nights, who", x.broke(1, 13, 0), who);
        c.due("13 nights, how much", x.broke(1, 13, 1), lacks);
        c.due("3 nights, who", x.broke(1, 3, 0), 1);
        c.due("3 nights, how much", x.broke(1, 3, 1), 5);
        for (int k = 0; k < 13; k++) {
            x.set(1, 3 * k + 2, 0);
        }
        c.due("all 13", x.broke(1, 13, 0), (1 << 13) - 1);
        String before = Check.seen(x);
        x.broke(1, 13, 1);
        c.same("broke", before, Check.seen(x));
    }

    private static void brokeRefused() {
        WoodForTwo x = new WoodForTwo();
        Check.fill(x, 0, 1, 9, 9, 2, 9, 9);
        c.due("no pass", x.broke(0, 1, 0), Check.STATE);
        c.due("STATE goes ahead of BAD", x.broke(9, 1, 0), Check.STATE);
        Check.read(x, "hut 1 1 flat 1;");
        c.due("row -1", x.broke(-1, 1, 0), Check.BAD);
        c.due("row 8", x.broke(8, 1, 0), Check.BAD);
        c.due("m 0", x.broke(0, 0, 0), Check.BAD);
        c.due("m -1", x.broke(0, -1, 0), Check.BAD);
        c.due("m 14", x.broke(0, 14, 0), Check.BAD);
        c.due("m MAX", x.broke(0, Integer.MAX_VALUE, 0), Check.BAD);
        c.due("what -1", x.broke(0, 1, -1), Check.BAD);
        c.due("what 2", x.broke(0, 1, 2), Check.BAD);
        c.due("BAD goes ahead of NULL", x.broke(5, 14, 0), Check.BAD);
        c.dueStatus(x, "missing", x.broke(5, 1, 0), Check.NULL, 1);
        c.dueStatus(x, "2 of 2", x.broke(0, 2, 0), 0, 0);
        c.dueStatus(x, "3 of 2", x.broke(0, 3, 0), Check.PLACE, 2);
        Check.fill(x, 1, 1, 9, 9, 2, 9);
        c.due("one item short", x.broke(1, 2, 0), Check.PLACE);
        x.set(1, 0, 0);
        c.due("PLACE goes ahead of an item", x.broke(1, 2, 0), Check.PLACE);
        int[][] wrong = {{0, 0}, {0, 10}, {0, -1}, {1, -1}, {1, 1000}, {2, -1}, {2, 1000},
            {3, 0}, {3, 10}, {4, 1000}, {5, -1}, {5, 1000}};
        for (int[] w : wrong) {
            Check.fill(x, 0, 1, 9, 9, 2, 9, 9);
            x.set(0, w[0], w[1]);
            c.due("item " + w[0] + " is " + w[1], x.broke(0, 2, 1), Check.BAD);
            c.due("the first night alone", x.broke(0, 1, 1), w[0] < 3 ? Check.BAD : 0);
        }
    }

    private static void liesByHand() {
        WoodForTwo x = new WoodForTwo();
        Check.fill(x, 2, 5, 5, 7, 6, 3, 9, 10, 4, 8, 2, 0, 0, 1, 0);
        c.due("who", x.lies(2, 7, 0), 2 + 8 + 16 + 64);
        c.due("the one", x.lies(2, 7, 1), 3);
        c.due("who of 3", x.lies(2, 3, 0), 2);
        c.due("the one of 3", x.lies(2, 3, 1), 1);
        c.due("who of 1", x.lies(2, 1, 0), 0);
        c.due("the one of 1", x.lies(2, 1, 1), Check.NONE);
        x.set(2, 8, 9);
        c.due("the one by most", x.lies(2, 7, 1), 4);
        int[] items = new int[40];
        for (int k = 0; k < 20; k++) {
            items[2 * k] = 999;
            items[2 * k + 1] = 998 - (k == 19 ? 998 : 0);
        }
        Check.fill(x, 3, items);
        c.due("20 writers, who", x.lies(3, 20, 0), (1 << 20) - 1);
        c.due("20 writers, the one", x.lies(3, 20, 1), 19);
        c.due("19 writers, the one", x.lies(3, 19, 1), 0);
        Check.fill(x, 4, 0, 999);
        c.due("less than was left", x.lies(4, 1, 0), 0);
        c.due("less than was left, the one", x.lies(4, 1, 1), Check.NONE);
    }

    private static void liesRefused() {
        WoodForTwo x = new WoodForTwo();
        Check.fill(x, 0, 1, 2, 3, 4);
        c.due("row -1", x.lies(-1, 1, 0), Check.BAD);
        c.due("row 8", x.lies(8, 1, 0), Check.BAD);
        c.due("m 0", x.lies(0, 0, 0), Check.BAD);
        c.due("m -1", x.lies(0, -1, 0), Check.BAD);
        c.due("m 21", x.lies(0, 21, 0), Check.BAD);
        c.due("m MAX", x.lies(0, Integer.MAX_VALUE, 0), Check.BAD);
        c.due("what -1", x.lies(0, 1, -1), Check.BAD);
        c.due("what 2", x.lies(0, 1, 2), Check.BAD);
        c.due("BAD goes ahead of NULL", x.lies(5, 21, 0), Check.BAD);
        c.dueStatus(x, "missing", x.lies(5, 1, 0), Check.NULL, 1);
        c.dueStatus(x, "3 of 2", x.lies(0, 3, 0), Check.PLACE, 2);
        c.dueStatus(x, "2 of 2", x.lies(0, 2, 0), 0, 0);
        Check.fill(x, 1, 1, 2, 3);
        c.due("one item short", x.lies(1, 2, 0), Check.PLACE);
        x.set(1, 0, -1);
        c.due("PLACE goes ahead of an item", x.lies(1, 2, 0), Check.PLACE);
        int[][] wrong = {{0, -1}, {0, 1000}, {1, -1}, {1, 1000}, {2, -1}, {3, 1000}};
        for (int[] w : wrong) {
            Check.fill(x, 0, 1, 2, 3, 4);
            x.set(0, w[0], w[1]);
            c.due("item " + w[0] + " is " + w[1], x.lies(0, 2, 0), Check.BAD);
            c.due("the first writer alone", x.lies(0, 1, 0), w[0] < 2 ? Check.BAD : 0);
        }
    }
}
