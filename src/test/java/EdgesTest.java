/**
 * The document's sections 1 and 2 (rows, texts, nights) sentence by sentence: each case at its edge,
 * and one log, head, byte, item or night to either side of it, in the order of the document.
 */
public final class EdgesTest {
    private static final Check c = new Check("EdgesTest");
    private static final String HUT = "hut 5 1 head 1;";
    private static final String[] LAWS = {"head", "flat", "less"};

    public static void main(String[] args) {
        rowsAreMissingAtFirst();
        itemsAreZeroAtFirst();
        lanesCutAndSign();
        copiesAsTheyWereAhead();
        findingsLeaveTheRows();
        statusIsOfTheLatest();
        tapeHoldsFourHundred();
        bytesComeHighestFirst();
        tokensEndByThemselves();
        eachTokenInItsPlace();
        theFirstFaultOfSeveral();
        roomForSixAndSixteen();
        aPassStandsInPlaceOfAnother();
        dueIsCut();
        headsFreeze();
        waysOfLeaving();
        weighersAtTheirBounds();
        woodIsCutAt999();
        snowTakesAtMostAll();
        c.end();
    }

    // ---- 1: rows, texts.

    private static void rowsAreMissingAtFirst() {
        WoodForTwo x = new WoodForTwo();
        Check.read(x, HUT + "party 1 none 1;");
        for (int row = 0; row < 8; row++) {
            c.dueStatus(x, "set", x.set(row, 0, 1), Check.NULL, 1);
            c.dueStatus(x, "copy within", x.copy(row, 0, row, 0, 0), Check.NULL, 1);
            c.dueStatus(x, "drop", x.drop(row), Check.NULL, 1);
            c.dueStatus(x, "nights", x.nights(row, 0, 1), Check.NULL, 1);
            c.dueStatus(x, "broke", x.broke(row, 1, 0), Check.NULL, 1);
            c.dueStatus(x, "lies", x.lies(row, 1, 0), Check.NULL, 1);
            c.due("rows there", x.count(0), 0);
        }
        for (int row = 7; row >= 0; row--) {
            c.dueStatus(x, "row of none", x.row(row, 2, 0), 0, 0);
            c.due("rows there", x.count(0), 8 - row);
        }
        c.due("row in place of a row", x.row(3, 1, 40), 40);
        c.due("rows there", x.count(0), 8);
        for (int row = 0; row < 8; row++) {
            c.dueStatus(x, "drop", x.drop(row), row == 3 ? 40 : 0, 0);
            c.due("rows there", x.count(0), 7 - row);
        }
    }

    private static void itemsAreZeroAtFirst() {
        for (int lane = 0; lane <= 2; lane++) {
            WoodForTwo x = new WoodForTwo();
            x.row(0, lane, 40);
            dueZeros(x, lane, "a new row");
            x.set(0, 0, 1);
            for (int n = 1; n < 40; n *= 2) {
                x.copy(0, 0, 0, n, Math.min(n, 40 - n));
            }
            x.row(0, lane, 40);
            dueZeros(x, lane, "a row in place of one");
            x.set(0, 39, 5);
            x.row(0, lane, 39);
            x.row(0, lane, 40);
            dueZeros(x, lane, "a row in place of a shorter one");
            x.set(0, 0, 7);
            x.drop(0);
            x.row(0, lane, 40);
            dueZeros(x, lane, "a row that was dropped");
        }
    }

    /** All 40 are 0: none is more than the ints of a row of zeros, none less, none below 0. */
    private static void dueZeros(WoodForTwo x, int lane, String which) {
        c.due("nobody lied by " + which, x.lies(0, 20, 0), 0);
        x.row(1, lane, 40);
        x.copy(0, 0, 1, 1, 39);
        c.due("nobody lied by one on of " + which, x.lies(1, 20, 0), 0);
        x.row(1, lane, 2);
        x.copy(0, 39, 1, 0, 1);
        c.due("the last one is 0 of " + which, x.lies(1, 1, 0), 0);
    }

    private static void lanesCutAndSign() {
        WoodForTwo x = new WoodForTwo();
        for (int lane = 0; lane <= 2; lane++) {
            x.row(lane, lane, 2);
            int bits = 8 << lane;
            long top = 1L << (bits - 1);
            long[] given = {top - 1, top, top + 1, -top - 1, -top, -top + 1, 2 * top - 1, 2 * top,
                2 * top + 1, 0, -1, 1, Integer.MAX_VALUE, Integer.MIN_VALUE, Integer.MIN_VALUE + 1};
            for (long v : given) {
                int wide = (int) v;
                // Twos of the lane are taken off until it fits.
                long due = Math.floorMod(wide + top, 2 * top) - top;
                c.due("lane " + lane + " of " + wide, x.set(lane, 1, wide), due);
                c.due("it is kept so", x.lies(lane, 1, 0), due > 999 || due < 0 ? Check.BAD : 0);
            }
        }
        c.due("a byte is told again as it is", x.set(0, 0, 200), -56);
        c.due("a byte of 200 is below 0", x.lies(0, 1, 0), Check.BAD);
    }

    private static void copiesAsTheyWereAhead() {
        int[] first = {3, 1, 4, 1, 5, 9, 2, 6};
        for (int i = 0; i <= 4; i++) {
            for (int j = 0; j <= 4; j++) {
                WoodForTwo x = new WoodForTwo();
                Check.fill(x, 5, first);
                c.due("copy of 4 from " + i + " to " + j, x.copy(5, i, 5, j, 4), 4);
                int[] due = first.clone();
                for (int k = 0; k < 4; k++) {
                    due[j + k] = first[i + k];
                }
                c.isRow(x, 5, due);
            }
        }
        WoodForTwo x = new WoodForTwo();
        for (int lane = 0; lane <= 2; lane++) {
            x.row(0, lane, 40);
            x.row(1, lane, 40);
            x.set(0, 0, 9);
            x.set(0, 39, 1);
            c.due("copy of all 40", x.copy(0, 0, 1, 0, 40), 40);
            c.due("the first and the last came", x.lies(1, 20, 0), 1);
            for (int other = 0; other <= 2; other++) {
                x.row(2, other, 40);
                c.dueStatus(x, "lane " + lane + " to lane " + other, x.copy(0, 0, 2, 0, 40),
                    lane == other ? 40 : Check.STORE, lane == other ? 0 : 5);
            }
        }
    }

    private static void findingsLeaveTheRows() {
        WoodForTwo x = new WoodForTwo();
        Check.fill(x, 0, 7, 8, 9);
        Check.fill(x, 1, 1, 2, 3);
        x.row(2, 0, 3);
        x.row(0, 2, -1);
        x.row(0, 3, 1);
        x.row(0, 2, 41);
        x.set(0, 3, 5);
        x.set(0, -1, 5);
        x.copy(0, 0, 1, 1, 3);
        x.copy(0, 1, 1, 0, 3);
        x.copy(0, 0, 1, 0, 4);
        x.copy(2, 0, 1, 0, 3);
        x.copy(3, 0, 1, 0, 3);
        x.copy(1, 0, 0, 0, -1);
        c.due("rows there", x.count(0), 3);
        c.isRow(x, 0, 7, 8, 9);
        c.isRow(x, 1, 1, 2, 3);
        c.due("a lane stays", x.set(0, 0, 70000), 70000);
        c.due("a lane stays", x.set(2, 0, 255), -1);
    }

    private static void statusIsOfTheLatest() {
        WoodForTwo x = Check.with(HUT + "party 2 none 1;");
        c.due("none was yet", x.status(), 0);
        x.row(0, 0, -1);
        c.due("SIZE", x.status(), 4);
        x.set(0, 0, 0);
        c.due("NULL", x.status(), 1);
        x.row(0, 0, 1);
        c.due("none", x.status(), 0);
        x.set(0, 1, 0);
        c.due("PLACE", x.status(), 2);
        x.as(0, 1);
        c.due("KIND", x.status(), 3);
        x.row(1, 1, 1);
        x.copy(0, 0, 1, 0, 1);
        c.due("STORE", x.status(), 5);
        c.due("status() itself", x.status(), 5);
        long[] others = {x.feed(0, 9), x.feed(32, 1), x.pass(), x.fault(), x.night(0), x.night(1), x.snow(1),
            x.due(0, 1), x.due(0, 0), x.party(0, 0), x.party(0, 9), x.safe(1, 1, 0, 0), x.stock(1, 0, 0),
            x.send(1, 1), x.carry(1, 1, 1), x.image(0), x.restore(0), x.restore(1), x.kind(0), x.ask(0, 0),
            x.trace(0), x.count(0), x.count(9)};
        c.due("after " + others.length + " calls without a row", x.status(), 5);
        long[] refused = {x.row(8, 0, 0), x.set(8, 0, 0), x.copy(8, 0, 0, 0, 0), x.drop(8), x.nights(0, 0, 0),
            x.broke(0, 0, 0), x.lies(0, 0, 0), x.as(1, 0), x.as(0, 6)};
        c.due("after " + refused.length + " calls that were BAD", x.status(), 5);
        c.due("drop", x.drop(0), 1);
        c.due("it had none", x.status(), 0);
    }

    private static void tapeHoldsFourHundred() {
        for (int n = 1; n <= 8; n++) {
            WoodForTwo x = new WoodForTwo();
            int there = 0;
            while (there + 8 <= 400 - n) {
                there += 8;
                c.due("feed up to " + there, x.feed(0x2020202020202020L, 8), there);
            }
            while (there < 400 - n) {
                there++;
                c.due("feed up to " + there, x.feed(32, 1), there);
            }
            c.due("one more than there is room for", n == 8 ? Check.FULL : x.feed(0, n + 1), Check.FULL);
            c.due("none came", x.count(6), 400 - n);
            c.due("as many as there is room for", x.feed(0x2020202020202020L, n), 400);
            c.due("none more", x.feed(0x20, 1), Check.FULL);
            c.due("all came", x.count(6), 400);
            c.due("the end", x.pass(), Check.NOT - 100 - 400);
            c.due("the tape is empty then", x.count(6), 0);
            c.due("feed again", x.feed(0x20, 1), 1);
        }
        WoodForTwo x = new WoodForTwo();
        String blanks = " ".repeat(400);
        c.due("the last byte is a fault", Check.read(x, blanks.substring(1) + "x"), Check.NOT - 499);
        c.due("fault()", x.fault(), 1);
        c.due("the last byte ends it", Check.read(x, blanks.substring(HUT.length()) + HUT), 0);
        c.due("the last byte is blank", Check.read(x, HUT + blanks.substring(HUT.length())), 0);
        Check.feed(x, blanks.substring(1 + HUT.length()) + HUT);
        c.due("FULL", x.feed(0x3B3B, 2), Check.FULL);
        c.due("and the tape is as it was", x.pass(), 0);
        Check.feed(x, HUT);
        c.due("a tape of " + HUT.length(), x.count(6), HUT.length());
        c.due("is read once", x.pass(), 0);
        c.due("and not twice", x.pass(), Check.NOT - 100);
    }

    private static void bytesComeHighestFirst() {
        WoodForTwo x = new WoodForTwo();
        // The lowest byte of the widest longs, and the highest: where the first strange one stands.
        c.due("feed of MIN", x.feed(Long.MIN_VALUE, 8), 8);
        c.due("its first is 128", x.pass(), Check.NOT - 100);
        c.due("feed of a MAX of blanks", x.feed(0x20202020202020FFL, 8), 8);
        c.due("its last is 255", x.pass(), Check.NOT - 107);
        for (int n = 1; n <= 8; n++) {
            for (int k = 0; k < n; k++) {
                // Blanks but for one; what is above the lowest n is strange, and does not come.
                long w = 0x2020202020202020L ^ 0x58L << 8 * k;
                w = n == 8 ? w : w & (1L << 8 * n) - 1 | -1L << 8 * n;
                c.due("feed of " + n, x.feed(w, n), n);
                c.due("byte " + k + " from the end of " + n, x.pass(), Check.NOT - 100 - (n - 1 - k));
            }
        }
        x.feed('h', 1);
        x.feed('u' << 8 | 't', 2);
        c.due("they come behind the tape", Check.read(x, " 5 1 head 1;"), 0);
    }

    private static void tokensEndByThemselves() {
        String[] parts = {"hut", "5", " ", "4", "less", "3", ";", "chance", "2", " ", "1", ";",
            "party", "7", "none", "8", ";", ""};
        for (int i = 0; i < parts.length; i++) {
            stands(parts, i, "");
            if (!parts[i].equals(" ")) {
                stands(parts, i, " ");
                stands(parts, i, "\n");
                stands(parts, i, " \n\n  ");
            }
        }
        // Every other byte but a letter or a figure is none, wherever it stands.
        for (int b = 0; b < 256; b++) {
            boolean part = b >= 'a' && b <= 'z' || b >= '0' && b <= '9' || b == ';' || b == 32 || b == 10;
            if (!part) {
                faultAt((char) b + HUT, 0, 1);
                faultAt("hut 5 1" + (char) b + "head 1;", 7, 1);
                faultAt(HUT + (char) b, 15, 1);
            }
        }
        faultAt("hut 51 head 1;", 7, 1);
        faultAt("hut 5 1 head 1 0;", 15, 1);
        faultAt("hut 5 1 headless 1;", 8, 1);
        faultAt("h ut 5 1 head 1;", 0, 1);
        faultAt("hut 5 1 he ad 1;", 8, 1);
    }

    /** The text with one more thing ahead of its part i stands as it is. */
    private static void stands(String[] parts, int at, String more) {
        StringBuilder text = new StringBuilder();
        for (int i = 0; i < parts.length; i++) {
            text.append(i == at ? more : "").append(parts[i]);
        }
        WoodForTwo x = new WoodForTwo();
        c.due("pass of " + text, Check.read(x, text.toString()), 1);
        c.due("wood of " + text, x.count(4), 5);
        c.due("due of " + text, x.due(2, 2), 14);
        c.due("toil of " + text, x.party(0, 1), 8);
        c.due("chances of " + text, x.safe(7, 1, 0, 0) + 2 * x.count(2), 2);
    }

    private static void eachTokenInItsPlace() {
        String[] tokens = {"hut", "chance", "party", "head", "flat", "less", "keeps", "half", "none",
            "weighs", "5", "500", "0005", ";", "x", "hutt", "hea", "keep", "Hut", "-"};
        String[] sound = {"hut", "5", "4", "less", "3", ";", "chance", "2", "1", ";", "party", "7", "none", "8", ";"};
        for (int i = 0; i < sound.length; i++) {
            for (String token : tokens) {
                StringBuilder text = new StringBuilder();
                int place = 0;
                for (int k = 0; k < sound.length; k++) {
                    place = k == i ? text.length() : place;
                    text.append(k == i ? token : sound[k]).append(' ');
                }
                due(text.toString(), sound, i, token, place);
            }
            StringBuilder cut = new StringBuilder();
            for (int k = 0; k < i; k++) {
                cut.append(sound[k]).append(' ');
            }
            if (i != 6 && i != 10) {
                faultAt(cut.toString(), cut.length(), 1);
                faultAt(cut + "\n", cut.length() + 1, 1);
            }
        }
    }

    private static void due(String text, String[] sound, int i, String token, int place) {
        boolean law = token.equals("head") || token.equals("flat") || token.equals("less");
        boolean way = token.equals("keeps") || token.equals("half") || token.equals("none") || token.equals("weighs");
        boolean number = token.equals("5") || token.equals("500");
        boolean shape = token.equals(sound[i]) || i == 3 && law || i == 12 && way
            || number && sound[i].matches("[0-9]+");
        // Ahead of the party a chance stands as well, and the other way round; but then what is behind
        // that word cannot.
        boolean word = i == 6 && token.equals("party") || i == 10 && token.equals("chance");
        if (word) {
            faultAt(text, place + token.length() + 3, 1);
        } else if (!shape) {
            faultAt(text, place, 1);
        } else if (token.equals("500") && i != 1) {
            faultAt(text, place, 2);
        } else {
            WoodForTwo x = new WoodForTwo();
            c.due("pass of " + text, Check.read(x, text), 1);
            c.due("fault() of " + text, x.fault(), 0);
        }
    }

    private static void theFirstFaultOfSeveral() {
        faultAt("hut 501 10 held 1000", 4, 2);
        faultAt("hut 500 10 held 1000", 8, 2);
        faultAt("hut 500 9 held 1000", 10, 1);
        faultAt("hut 500 9 head 1000", 15, 1);
        faultAt("hut 500 9 head 999", 15, 2);
        faultAt("hut 500 9 head 9", 16, 1);
        faultAt(HUT + "chance 1 1;chance 1 10", 33, 2);
        faultAt(HUT + "chance 1 10;chance 1 10", 24, 2);
        faultAt(HUT + "chance 10 1;chance 10 1;", 22, 2);
        faultAt(HUT + "party 10 1 1;", 21, 2);
        faultAt(HUT + "party 9 1 1;", 23, 1);
        WoodForTwo x = new WoodForTwo();
        c.due("ahead of one", x.fault(), 0);
        Check.read(x, "hut 501 1 head 1;");
        c.due("the latest", x.fault(), 2);
        Check.read(x, HUT);
        c.due("a pass that is read leaves it", x.fault(), 2);
        Check.read(x, "");
        c.due("the latest", x.fault(), 1);
        Check.read(x, sizes(7));
        c.due("the latest", x.fault(), 3);
        x.feed(0, 9);
        x.row(9, 9, 9);
        c.due("what is refused is no FAULT", x.fault(), 3);
    }

    private static String sizes(int n) {
        StringBuilder text = new StringBuilder(HUT);
        for (int i = 0; i < n; i++) {
            text.append("chance ").append(9 - i).append(" 1;");
        }
        return text.toString();
    }

    private static String guests(int n) {
        StringBuilder text = new StringBuilder(HUT);
        for (int i = 0; i < n; i++) {
            text.append("party ").append(1 + i % 9).append(" half ").append(i).append(';');
        }
        return text.toString();
    }

    private static void roomForSixAndSixteen() {
        for (int n = 0; n <= 6; n++) {
            WoodForTwo x = new WoodForTwo();
            c.due(n + " chances", Check.read(x, sizes(n)), 0);
            c.due("count(2)", x.count(2), n);
            c.due("below", x.safe(0, 1, 0, 1), n == 0 ? Check.NONE : 1);
            c.due("above", x.safe(99, 1, 0, 0), n == 0 ? Check.NONE : 1);
            // Sizes 9, 8 .. are told, so the wood for the least of them is enough for one of n.
            c.due("the last one counts", x.safe(10 - n, 1, 0, 1), n == 0 ? Check.NONE : n);
            c.due("a log less", x.safe(Math.max(0, 9 - n), 1, 0, 0), n == 0 ? Check.NONE : 0);
        }
        int six = sizes(6).length();
        faultAt(sizes(7), six, 3);
        faultAt(sizes(6) + "chance", six, 3);
        faultAt(sizes(6) + "\n chance 9 1;", six + 2, 3);
        faultAt(sizes(6) + "chances 1 1;", six, 1);
        faultAt(sizes(5) + "chance 9 1;", sizes(5).length() + 7, 2);
        for (int n = 0; n <= 16; n++) {
            WoodForTwo x = new WoodForTwo();
            c.due(n + " parties", Check.read(x, guests(n)), n);
            c.due("count(1)", x.count(1), n);
            c.due("the last one", x.party(n - 1, 1), n == 0 ? Check.BAD : n - 1);
            c.due("heads of the last one", x.party(n - 1, 0), n == 0 ? Check.BAD : 1 + (n - 1) % 9);
            c.due("none behind it", x.party(n, 1), Check.BAD);
            c.due("no night behind it", x.night(n), Check.BAD);
        }
        int sixteen = guests(16).length();
        faultAt(guests(17), sixteen, 3);
        faultAt(guests(16) + "party", sixteen, 3);
        faultAt(guests(16) + " party 0 none 1;", sixteen + 1, 3);
        faultAt(guests(16) + "parties", sixteen, 1);
        faultAt(guests(16) + "chance 1 1;", sixteen, 1);
        faultAt(guests(16) + "hut", sixteen, 1);
    }

    private static void aPassStandsInPlaceOfAnother() {
        WoodForTwo x = Check.with("hut 1 9 head 9;chance 1 1;party 9 weighs 1;party 1 keeps 5;");
        Check.fill(x, 4, 0, 1);
        x.night(0);
        x.night(1);
        x.image(1);
        x.ask(1, 1);
        c.due("a pass", Check.read(x, "hut 3 1 flat 2;party 2 none 1;"), 1);
        c.due("night 0", x.count(3), 0);
        c.due("wood as told", x.count(4), 3);
        c.due("nobody froze", x.count(5), 0);
        c.due("no chances", x.count(2), 0);
        for (int what = 2; what <= 5; what++) {
            c.due("party(0, " + what + ")", x.party(0, what), 0);
        }
        c.due("rows stay", x.lies(4, 1, 0) + x.count(0), 1);
        c.due("the other image is none", x.restore(0), Check.STATE);
        c.due("images stay", x.restore(1), 1);
        c.due("nights then", x.count(3), 2);
        c.due("froze then", x.count(5), 9);
        c.due("parties then", x.count(1), 2);
        c.due("chances then", x.count(2), 1);
        Check.read(x, "hut");
        c.due("a fault leaves it", x.count(3), 2);
    }

    // ---- 2: nights.

    private static void dueIsCut() {
        for (int law = 0; law < 3; law++) {
            WoodForTwo least = Check.with("hut 5 1 " + LAWS[law] + " 0;party 1 keeps 1;party 9 keeps 1;");
            c.due("head, the least", least.due(0, 1), 0);
            c.due("head of 9, the least", least.due(0, 9), 0);
            c.due("flat, the least", least.due(1, 9), 0);
            c.due("less of 1, the least", least.due(2, 1), 0);
            c.due("less of 2 is cut", least.due(2, 2), 0);
            c.due("less of 3", least.due(2, 3), 1);
            c.due("less of 4 is cut", least.due(2, 4), 1);
            c.due("less of 9", least.due(2, 9), 4);
            WoodForTwo most = Check.with("hut 5 9 " + LAWS[law] + " 9;party 1 keeps 1;party 9 keeps 1;");
            c.due("head of 1, the most", most.due(0, 1), 81);
            c.due("head of 9, the most", most.due(0, 9), 729);
            c.due("flat of 1, the most", most.due(1, 1), 81);
            c.due("flat of 9, the most", most.due(1, 9), 81);
            c.due("less of 1, the most", most.due(2, 1), 81);
            // The product first: 1 times 9 by 2 is 4; then 31, where 7 halves would make 27.
            c.due("less of 2, the most", most.due(2, 2), 85);
            c.due("less of 8, the most", most.due(2, 8), 81 + 31);
            c.due("less of 9, the most", most.due(2, 9), 81 + 36);
            most.night(1);
            c.due("the law that was told", most.party(1, 4), most.due(law, 9));
            most.night(0);
            c.due("the law that was told", most.party(0, 4), most.due(law, 1));
        }
    }

    private static void headsFreeze() {
        for (int heads = 1; heads <= 9; heads++) {
            for (int burn = 1; burn <= 9; burn += 4) {
                int all = heads * burn;
                int[] woods = {all + 1, all, all - 1, all - burn + 1, all - burn, all - burn - 1, 1, 0};
                for (int wood : woods) {
                    if (wood < 0) {
                        continue;
                    }
                    WoodForTwo x = Check.with("hut " + wood + " " + burn + " head 0;party " + heads + " keeps 1;");
                    // A head is warm by a whole BURN alone, the one who lacks a single log is not.
                    int warm = Math.min(heads, wood / burn);
                    c.due(heads + " heads, " + burn + " each, of " + wood, x.night(0), heads - warm);
                    c.due("wood then", x.count(4), Math.max(0, wood - all));
                    c.due("froze in all", x.count(5), heads - warm);
                    c.due("froze of it", x.party(0, 3), heads - warm);
                    c.due("nights", x.count(3), 1);
                    c.due("nights slept", x.party(0, 2), 1);
                }
            }
        }
    }

    private static void waysOfLeaving() {
        // 3 heads by 3, less: 3 and half of 6, so 6 are due; of 2 heads 3 and 1, so 4; of 1 head 3.
        String text = " 3 less 1;party 3 keeps 1;party 3 half 1;party 3 none 1;party 3 weighs 1;"
            + "party 1 half 1;party 2 half 99;party 1 keeps 99;";
        int[] leaves = {6, 3, 0, 6, 1, 2, 3};
        int[] due = {6, 6, 6, 6, 3, 4, 3};
        int[] heads = {3, 3, 3, 3, 1, 2, 1};
        for (int p = 0; p < leaves.length; p++) {
            for (int wood = 0; wood <= 10; wood += 5) {
                WoodForTwo x = Check.with("hut " + wood + text);
                x.night(p);
                c.due("left by " + p + " of " + wood, x.party(p, 4), leaves[p]);
                c.due("lacked by " + p + " of " + wood, x.party(p, 5), due[p] - leaves[p]);
                c.due("wood", x.count(4), Math.max(0, wood - 3 * heads[p]) + leaves[p]);
                x.night(p);
                c.due("left in all", x.party(p, 4), 2 * leaves[p]);
                c.due("lacked in all", x.party(p, 5), 2 * (due[p] - leaves[p]));
                c.due("slept in all", x.party(p, 2), 2);
                c.due("nobody else slept", x.party((p + 1) % 7, 2), 0);
            }
        }
    }

    private static void weighersAtTheirBounds() {
        // Much wood: TOIL times DUE is 99, 100, 102 (101 cannot be).
        weighs("hut 500 1 flat 1;party 1 weighs 99;", 1);
        weighs("hut 500 1 flat 2;party 1 weighs 50;", 2);
        weighs("hut 500 1 flat 2;party 1 weighs 51;", 0);
        weighs("hut 500 2 flat 2;party 1 weighs 25;", 4);
        weighs("hut 500 2 flat 2;party 1 weighs 26;", 0);
        weighs("hut 500 4 flat 5;party 1 weighs 5;", 20);
        weighs("hut 500 2 flat 9;party 9 weighs 0;", 18);
        // Little wood: 999, 1000, 1001, 1008.
        weighs("hut 0 1 less 9;party 1 weighs 99;", 9);
        weighs("hut 0 9 less 3;party 1 weighs 37;", 27);
        weighs("hut 0 5 flat 2;party 1 weighs 99;", 10);
        weighs("hut 0 5 flat 4;party 1 weighs 50;", 20);
        weighs("hut 0 5 flat 4;party 1 weighs 51;", 0);
        weighs("hut 0 3 less 3;party 3 weighs 77;", 12);
        weighs("hut 0 3 less 4;party 2 weighs 77;", 0);
        weighs("hut 0 1 less 9;party 5 weighs 91;", 0);
        weighs("hut 0 1 less 9;party 5 weighs 90;", 11);
        // WOOD below 2 times BURN is what is there when they have burnt.
        for (int burn = 1; burn <= 9; burn++) {
            String by = " " + burn + " head 5;party 2 weighs 11;";
            weighs("hut " + (4 * burn - 1) + by, 10 * burn);
            weighs("hut " + 4 * burn + by, 0);
            weighs("hut " + (4 * burn + 1) + by, 0);
            weighs("hut " + 2 * burn + by, 10 * burn);
            weighs("hut " + (2 * burn - 1) + by, 10 * burn);
        }
    }

    private static void weighs(String text, int leaves) {
        WoodForTwo x = Check.with(text);
        x.night(0);
        c.due("left: " + text, x.party(0, 4), leaves);
        int law = text.contains("head") ? 0 : text.contains("flat") ? 1 : 2;
        c.due("lacked: " + text, x.party(0, 5), x.due(law, (int) x.party(0, 0)) - leaves);
    }

    private static void woodIsCutAt999() {
        // 81 are burnt and 729 left.
        for (int wood = 340; wood <= 360; wood++) {
            WoodForTwo x = Check.with("hut " + wood + " 9 head 9;chance 9 1;party 9 keeps 0;");
            x.image(0);
            x.night(0);
            c.due("wood from " + wood, x.count(4), Math.min(999, wood + 648));
            c.due("what it left counts whole", x.party(0, 4), 729);
            c.due("nothing lacked", x.party(0, 5), 0);
            c.due("snow of one", x.snow(1), Math.min(999, wood + 648) - 1);
            x.restore(0);
            c.due("as it was", x.count(4), wood);
        }
        WoodForTwo x = Check.with("hut 500 9 head 9;party 9 half 0;party 9 keeps 0;party 1 none 1;");
        x.night(0);
        x.night(0);
        x.night(0);
        c.due("half of much is cut, too", x.count(4), 999);
        c.due("and counts whole", x.party(0, 4), 3 * 364);
        c.due("and so does what lacked", x.party(0, 5), 3 * 365);
        for (int i = 0; i < 40; i++) {
            c.due("nobody freezes", x.night(1), 0);
            c.due("999 at most", x.count(4), 999);
        }
        c.due("left in all", x.party(1, 4), 40 * 729);
        x.night(2);
        c.due("one burns 9 of 999", x.count(4), 990);
    }

    private static void snowTakesAtMostAll() {
        for (int wood = 0; wood <= 100; wood += 10) {
            for (int s = Math.max(0, wood - 1); s <= Math.min(99, wood + 1); s++) {
                WoodForTwo x = Check.with("hut " + wood + " 1 head 1;party 1 keeps 1;");
                c.due("snow of " + s + " on " + wood, x.snow(s), Math.max(0, wood - s));
                c.due("wood", x.count(4), Math.max(0, wood - s));
                c.due("a night is gone", x.count(3), 1);
                c.due("nobody slept", x.party(0, 2) + x.party(0, 3) + x.party(0, 4) + x.party(0, 5), 0);
                c.due("nobody froze", x.count(5), 0);
            }
        }
    }

    private static void faultAt(String text, int place, int number) {
        WoodForTwo x = new WoodForTwo();
        c.due("pass of '" + text + "'", Check.read(x, text), Check.NOT - 100 - place);
        c.due("fault() of '" + text + "'", x.fault(), number);
        c.due("the tape after '" + text + "'", x.count(6), 0);
        c.due("no pass after '" + text + "'", x.image(0), Check.STATE);
    }
}
