/** Promises 9 to 13 and 26: night, nights, snow, due, party, count. */
public final class NightsTest {
    private static final Check c = new Check("NightsTest");

    public static void main(String[] args) {
        keepersAndHalves();
        frost();
        weighersWeigh();
        woodIsAtMost999();
        nightRefused();
        nightsByARow();
        nightsRefused();
        snows();
        dues();
        dueRefused();
        partyRefused();
        counts();
        c.end();
    }

    private static void keepersAndHalves() {
        WoodForTwo x = Check.with("hut 100 3 less 1;"
            + "party 1 keeps 1;party 4 keeps 1;party 2 half 1;party 3 none 1;");
        night(x, 0, 0, 100 - 3 + 3);
        night(x, 1, 0, 100 - 12 + 3 + 9 / 2);
        night(x, 2, 0, 95 - 6 + (3 + 3 / 2) / 2);
        night(x, 3, 0, 91 - 9);
        book(x, 0, 1, 0, 3, 0);
        book(x, 1, 1, 0, 7, 0);
        book(x, 2, 1, 0, 2, 2);
        book(x, 3, 1, 0, 0, 6);
        night(x, 2, 0, 82 - 6 + 2);
        book(x, 2, 2, 0, 4, 4);
        c.due("nights gone", x.count(3), 5);
        c.due("nobody froze", x.count(5), 0);
    }

    private static void frost() {
        for (int wood = 0; wood <= 20; wood++) {
            WoodForTwo x = Check.with("hut " + wood + " 4 head 0;party 5 keeps 1;");
            int lacks = 20 - wood;
            night(x, 0, lacks / 4 + (lacks % 4 == 0 ? 0 : 1), 0);
            c.due("froze in all", x.count(5), x.party(0, 3));
        }
        for (int burn = 1; burn <= 9; burn++) {
            for (int wood = 0; wood <= 20; wood++) {
                WoodForTwo x = Check.with("hut " + wood + " " + burn + " flat 0;party 2 none 1;");
                // One is warm from BURN on, both from twice that on.
                night(x, 0, wood >= 2 * burn ? 0 : wood >= burn ? 1 : 2, Math.max(0, wood - 2 * burn));
            }
        }
        WoodForTwo x = Check.with("hut 5 4 head 2;party 5 keeps 1;party 9 none 0;");
        night(x, 0, 4, 40);
        book(x, 0, 1, 4, 40, 0);
        night(x, 1, 0, 4);
        night(x, 1, 8, 0);
        night(x, 1, 9, 0);
        book(x, 1, 3, 17, 0, 216);
        c.due("froze in all", x.count(5), 21);
    }

    private static void weighersWeigh() {
        // Due is 2 times 5, or 10, for each of them.
        weigher("hut 500 5 flat 2;party 1 weighs 10;", 10);
        weigher("hut 500 5 flat 2;party 1 weighs 11;", 0);
        weigher("hut 14 5 flat 2;party 1 weighs 99;", 10);
        weigher("hut 15 5 flat 2;party 1 weighs 99;", 0);
        weigher("hut 15 5 flat 2;party 1 weighs 10;", 10);
        weigher("hut 0 5 flat 2;party 1 weighs 99;", 10);
        weigher("hut 0 8 flat 5;party 1 weighs 25;", 40);
        weigher("hut 0 8 flat 5;party 1 weighs 26;", 0);
        weigher("hut 50 8 flat 5;party 1 weighs 0;", 40);
        weigher("hut 0 1 head 7;party 1 weighs 14;", 7);
        WoodForTwo x = Check.with("hut 0 3 less 4;party 2 weighs 76;party 2 weighs 77;");
        x.night(0);
        c.due("76 times 13 is no more than 1000", x.party(0, 4), 13);
        x.snow(99);
        x.night(1);
        c.due("77 times 13 is 1001", x.party(1, 4), 0);
        c.due("77 times 13 is 1001", x.party(1, 5), 13);
        weigher("hut 100 1 head 9;party 9 weighs 1;", 81);
        weigher("hut 100 1 head 9;party 9 weighs 2;", 0);
        // What counts is the wood that is there when it goes, not in the evening.
        weigher("hut 11 1 head 9;party 9 weighs 12;", 0);
        weigher("hut 10 1 head 9;party 9 weighs 12;", 81);
        weigher("hut 10 1 head 9;party 9 weighs 13;", 0);
    }

    private static void weigher(String text, int leaves) {
        WoodForTwo x = Check.with(text);
        long evening = x.count(4);
        long burns = x.party(0, 0) * x.due(1, 1) / told(text);
        long owed = x.due(text.contains("head") ? 0 : 1, (int) x.party(0, 0));
        x.night(0);
        c.due("left: " + text, x.party(0, 4), leaves);
        c.due("lacked: " + text, x.party(0, 5), owed - leaves);
        c.due("wood: " + text, x.count(4), Math.max(0, evening - burns) + leaves);
    }

    /** The N of a text of one party. */
    private static long told(String text) {
        return text.charAt(text.indexOf(';') - 1) - '0';
    }

    private static void woodIsAtMost999() {
        WoodForTwo x = Check.with("hut 500 9 head 9;party 9 keeps 1;party 9 half 1;party 1 none 1;");
        night(x, 1, 0, 500 - 81 + 364);
        night(x, 0, 0, 999);
        book(x, 0, 1, 0, 729, 0);
        night(x, 0, 0, 999);
        book(x, 0, 2, 0, 1458, 0);
        night(x, 2, 0, 990);
        night(x, 1, 0, 999);
        book(x, 1, 2, 0, 728, 730);
        night(x, 2, 0, 990);
    }

    private static void nightRefused() {
        WoodForTwo x = Check.with("hut 9 1 head 1;party 1 keeps 1;party 2 keeps 1;");
        String before = Check.seen(x);
        c.due("night(2) of 2", x.night(2), Check.BAD);
        c.due("night(-1)", x.night(-1), Check.BAD);
        c.due("night(16)", x.night(16), Check.BAD);
        c.due("night(MAX)", x.night(Integer.MAX_VALUE), Check.BAD);
        c.due("night(MIN)", x.night(Integer.MIN_VALUE), Check.BAD);
        c.same("BAD", before, Check.seen(x));
        WoodForTwo y = Check.with("hut 9 1 head 1;");
        c.due("night(0) of none", y.night(0), Check.BAD);
    }

    private static void nightsByARow() {
        WoodForTwo x = Check.with("hut 10 2 flat 1;party 3 none 1;party 1 keeps 1;party 2 half 1;");
        WoodForTwo y = Check.with("hut 10 2 flat 1;party 3 none 1;party 1 keeps 1;party 2 half 1;");
        int[] who = {2, 0, 0, 1, 2, 2, 0, 1};
        Check.fill(x, 7, who);
        Check.fill(y, 7, who);
        long cold = 0;
        for (int i = 1; i < 7; i++) {
            cold += y.night(who[i]);
        }
        c.due("how many froze", cold, 0 + 1 + 1 + 1 + 2 + 3);
        c.due("nights", x.nights(7, 1, 6), cold);
        c.same("nights by a row are nights one by one: the rest", Check.seen(y), Check.seen(x));
        c.due("how many", x.count(3), 6);
        c.due("one of a row", x.nights(7, 7, 1), y.night(1));
        x.row(0, 0, 40);
        c.due("40 nights", x.nights(0, 0, 40) >= 100 ? 1 : 0, 1);
        c.due("how many", x.count(3), 47);
        c.due("they slept", x.party(0, 2), 43);
    }

    private static void nightsRefused() {
        WoodForTwo x = new WoodForTwo();
        Check.fill(x, 0, 0, 1, 0);
        c.due("no pass", x.nights(0, 0, 1), Check.STATE);
        c.due("STATE goes ahead of BAD", x.nights(-1, 0, 0), Check.STATE);
        Check.read(x, "hut 9 1 head 1;party 1 keeps 1;party 2 keeps 1;");
        Check.fill(x, 1, 0, 1, 2, 0, -1, 1);
        String before = Check.seen(x);
        c.due("row -1", x.nights(-1, 0, 1), Check.BAD);
        c.due("row 8", x.nights(8, 0, 1), Check.BAD);
        c.due("n 0", x.nights(0, 0, 0), Check.BAD);
        c.due("n -1", x.nights(0, 0, -1), Check.BAD);
        c.due("n 41", x.nights(0, 0, 41), Check.BAD);
        c.due("n goes ahead of NULL", x.nights(5, 0, 41), Check.BAD);
        c.due("an item that is no party", x.nights(1, 0, 3), Check.BAD);
        c.due("an item below 0", x.nights(1, 3, 2), Check.BAD);
        c.due("the first item", x.nights(1, 2, 2), Check.BAD);
        c.due("the one item", x.nights(1, 4, 1), Check.BAD);
        c.same("BAD", before, Check.seen(x));
        c.due("missing", x.nights(5, 0, 1), Check.NULL);
        c.due("NULL goes ahead of PLACE", x.nights(5, -1, 1), Check.NULL);
        c.due("place -1", x.nights(0, -1, 1), Check.PLACE);
        c.due("beyond the end", x.nights(0, 2, 2), Check.PLACE);
        c.due("n 40 of 3", x.nights(0, 0, 40), Check.PLACE);
        c.due("place MAX", x.nights(0, Integer.MAX_VALUE, 40), Check.PLACE);
        c.due("place MIN", x.nights(0, Integer.MIN_VALUE, 40), Check.PLACE);
        c.due("PLACE goes ahead of an item", x.nights(1, 2, 5), Check.PLACE);
        x.as(0, 0);
        c.same("what is found", before, Check.seen(x));
        c.due("an item that is not asked for may be none", x.nights(1, 0, 2), 0);
        c.due("to the very end", x.nights(0, 0, 3), 0);
    }

    private static void snows() {
        WoodForTwo x = new WoodForTwo();
        c.due("no pass", x.snow(5), Check.STATE);
        c.due("STATE goes ahead of BAD", x.snow(100), Check.STATE);
        Check.read(x, "hut 200 1 head 1;party 1 keeps 1;");
        c.due("snow(-1)", x.snow(-1), Check.BAD);
        c.due("snow(100)", x.snow(100), Check.BAD);
        c.due("no night went", x.count(3), 0);
        c.due("snow(99)", x.snow(99), 101);
        c.due("snow(0)", x.snow(0), 101);
        c.due("snow(99)", x.snow(99), 2);
        c.due("snow of all but one", x.snow(1), 1);
        c.due("snow of more than all", x.snow(50), 0);
        c.due("snow of nothing", x.snow(99), 0);
        c.due("nights", x.count(3), 6);
        c.due("nobody froze", x.count(5), 0);
        c.due("nobody slept", x.party(0, 2), 0);
        Check.read(x, "hut 50 1 head 1;");
        c.due("snow of just all", x.snow(50), 0);
    }

    private static void dues() {
        for (int n = 0; n <= 9; n++) {
            for (int burn = 1; burn <= 9; burn++) {
                WoodForTwo x = Check.with("hut 9 " + burn + " flat " + n + ";");
                for (int m = 1; m <= 9; m++) {
                    c.due("head " + n + " " + burn + " " + m, x.due(0, m), n * m * burn);
                    c.due("flat " + n + " " + burn + " " + m, x.due(1, m), n * burn);
                    c.due("less " + n + " " + burn + " " + m, x.due(2, m),
                        n * burn + ((m - 1) * burn >> 1));
                }
            }
        }
    }

    private static void dueRefused() {
        WoodForTwo x = new WoodForTwo();
        c.due("no pass", x.due(0, 1), Check.STATE);
        c.due("STATE goes ahead of BAD", x.due(3, 0), Check.STATE);
        Check.read(x, "hut 9 1 head 1;");
        c.due("law -1", x.due(-1, 1), Check.BAD);
        c.due("law 3", x.due(3, 1), Check.BAD);
        c.due("m 0", x.due(0, 0), Check.BAD);
        c.due("m -1", x.due(0, -1), Check.BAD);
        c.due("m 10", x.due(0, 10), Check.BAD);
    }

    private static void partyRefused() {
        WoodForTwo x = new WoodForTwo();
        c.due("no pass", x.party(0, 0), Check.BAD);
        Check.read(x, "hut 9 1 head 1;party 1 keeps 8;");
        c.due("what -1", x.party(0, -1), Check.BAD);
        c.due("what 6", x.party(0, 6), Check.BAD);
        c.due("party 1 of 1", x.party(1, 0), Check.BAD);
        c.due("party -1", x.party(-1, 0), Check.BAD);
        c.due("heads", x.party(0, 0), 1);
        c.due("toil", x.party(0, 1), 8);
    }

    private static void counts() {
        WoodForTwo x = new WoodForTwo();
        c.due("count(-1)", x.count(-1), Check.BAD);
        c.due("count(7)", x.count(7), Check.BAD);
        Check.read(x, "hut 9 2 head 1;chance 1 1;chance 2 1;party 8 keeps 8;"
            + "party 1 none 8;party 1 none 8;");
        x.row(5, 0, 3);
        x.row(6, 0, 0);
        x.night(0);
        x.snow(3);
        x.feed(7, 5);
        long[] counts = {2, 3, 2, 2, 13, 4, 5};
        for (int what = 0; what <= 6; what++) {
            c.due("count(" + what + ")", x.count(what), counts[what]);
        }
    }

    private static void night(WoodForTwo x, int party, long cold, long wood) {
        c.due("night(" + party + ")", x.night(party), cold);
        c.due("wood after it", x.count(4), wood);
    }

    private static void book(WoodForTwo x, int party, long slept, long froze, long left, long lacked) {
        c.due("slept", x.party(party, 2), slept);
        c.due("froze", x.party(party, 3), froze);
        c.due("left", x.party(party, 4), left);
        c.due("lacked", x.party(party, 5), lacked);
    }
}
