/** Promises 6 to 8: feed, pass, fault. */
public final class TextsTest {
    private static final Check c = new Check("TextsTest");
    private static final String HUT = "hut 5 1 head 1;";

    public static void main(String[] args) {
        feedTakesTheLowestBytes();
        feedRefused();
        passesThatStand();
        tokensWithoutBlanks();
        numbersInTheirBounds();
        faultsOfTheHut();
        faultsOfChances();
        faultsOfParties();
        faultsOfTokens();
        room();
        eachCutText();
        aFaultLeavesThePass();
        aPassInPlaceOfAnother();
        c.end();
    }

    private static void feedTakesTheLowestBytes() {
        WoodForTwo x = new WoodForTwo();
        // 'hut ' stands in the four lowest bytes, what is above them does not come.
        c.due("feed of 4 bytes", x.feed(0x5858585868757420L, 4), 4);
        c.due("feed of 1 byte", x.feed(0xFFFFFFFFFFFFFF37L, 1), 5);
        c.due("feed of 8 bytes", x.feed(0x2032206865616420L, 8), 13);
        c.due("feed of 2 bytes", x.feed(0x333BL, 2), 15);
        c.due("count(6)", x.count(6), 15);
        c.due("pass()", x.pass(), 0);
        c.due("count(6) after it", x.count(6), 0);
        c.due("wood", x.count(4), 7);
        c.due("due", x.due(0, 1), 6);
        for (int n = 1; n <= 8; n++) {
            WoodForTwo y = new WoodForTwo();
            c.due("feed of " + n, y.feed(-1, n), n);
            c.due("a byte 255 is no token", y.pass(), Check.NOT - 100);
        }
    }

    private static void feedRefused() {
        WoodForTwo x = new WoodForTwo();
        c.due("feed of 0 bytes", x.feed(32, 0), Check.BAD);
        c.due("feed of -1 bytes", x.feed(32, -1), Check.BAD);
        c.due("feed of 9 bytes", x.feed(32, 9), Check.BAD);
        c.due("feed of MIN bytes", x.feed(32, Integer.MIN_VALUE), Check.BAD);
        c.due("feed of MAX bytes", x.feed(32, Integer.MAX_VALUE), Check.BAD);
        for (int i = 1; i <= 49; i++) {
            c.due("feed", x.feed(0x2020202020202020L, 8), 8 * i);
        }
        c.due("feed up to 399", x.feed(0x2020202020202020L, 7), 399);
        c.due("feed of 2 where one has room", x.feed(0x2020, 2), Check.FULL);
        c.due("none came", x.count(6), 399);
        c.due("feed up to 400", x.feed(0x20, 1), 400);
        c.due("feed of one more", x.feed(0x20, 1), Check.FULL);
        c.due("BAD goes ahead of FULL", x.feed(0x20, 9), Check.BAD);
        c.due("the end is a fault", x.pass(), Check.NOT - 500);
        c.due("fault()", x.fault(), 1);
        c.due("the tape is empty", x.count(6), 0);
        c.due("a tape of 400 is read", Check.read(x, " ".repeat(400 - HUT.length()) + HUT), 0);
    }

    private static void passesThatStand() {
        WoodForTwo x = Check.with("hut 500 9 flat 9;chance 0 1;chance 9 9;chance 5 3;"
            + "party 1 keeps 0;party 9 half 99;party 4 none 50;party 1 weighs 1;party 2 keeps 7;");
        c.due("count(1)", x.count(1), 5);
        c.due("count(2)", x.count(2), 3);
        c.due("count(3)", x.count(3), 0);
        c.due("count(4)", x.count(4), 500);
        long[] heads = {1, 9, 4, 1, 2};
        long[] toils = {0, 99, 50, 1, 7};
        long[] kinds = {5, 2, 3, 4, 1};
        for (int p = 0; p < 5; p++) {
            c.due("heads of " + p, x.party(p, 0), heads[p]);
            c.due("toil of " + p, x.party(p, 1), toils[p]);
            c.due("kind of " + p, x.kind(p), kinds[p]);
        }
        c.due("due", x.due(1, 3), 81);
        c.due("parties alone", Check.read(x, HUT + "party 3 keeps 1;"), 1);
        c.due("no chances", x.count(2), 0);
        c.due("chances alone", Check.read(x, HUT + "chance 0 1;"), 0);
        c.due("a chance", x.count(2), 1);
        String[] laws = {"head", "flat", "less"};
        long[] nine = {2 * 9 * 3, 2 * 3, 2 * 3 + 8 * 3 / 2};
        for (int law = 0; law < 3; law++) {
            Check.read(x, "hut 0 3 " + laws[law] + " 2;party 9 keeps 1;");
            x.night(0);
            c.due("the law as told: " + laws[law], x.party(0, 4), nine[law]);
        }
    }

    private static void tokensWithoutBlanks() {
        WoodForTwo x = new WoodForTwo();
        c.due("no blanks but between numbers",
            Check.read(x, "hut12 3less4;chance0 5;chance9 1;party2half7;party1none0;"), 2);
        c.due("wood", x.count(4), 12);
        c.due("due", x.due(2, 2), 13);
        c.due("chances", x.count(2), 2);
        c.due("blanks all over", Check.read(x,
            "\n  hut \n 1\n2 \n\n flat  3 ; \n chance\n1 1\n;party  1\nhalf\n\n7  ;  \n"), 1);
        c.due("wood", x.count(4), 1);
        c.due("a number may begin with 0", Check.read(x, "hut 012 003 less 004;"), 0);
        c.due("wood", x.count(4), 12);
        c.due("000 is a number", Check.read(x, "hut 000 1 less 0;"), 0);
        String[] strange = {"\t", "\r", "\0", "\u000b", "A", "Z", "-", "+", ",", ":", "<", "/",
            "`", "{", "@", "\u0080", "\u00ff", "!", "\u001f", "!"};
        for (String s : strange) {
            fault(s + HUT, 0, 1);
            fault("hut" + s + " 5 1 head 1;", 3, 1);
            fault("hut 5" + s + "1 head 1;", 5, 1);
            fault(HUT + s, 15, 1);
        }
        c.due("two signs need no blank", Check.read(x, "hut 1 1 head 1;party 1 half 1;"), 1);
    }

    private static void numbersInTheirBounds() {
        WoodForTwo x = new WoodForTwo();
        c.due("the least", Check.read(x, "hut 0 1 head 0;chance 0 1;party 1 none 0;"), 1);
        c.due("the most", Check.read(x, "hut 500 9 head 9;chance 9 9;party 9 none 99;"), 1);
        for (int wood = 490; wood <= 510; wood++) {
            if (wood <= 500) {
                c.due("wood " + wood, Check.read(x, "hut " + wood + " 1 head 1;"), 0);
                c.due("is told", x.count(4), wood);
            } else {
                fault("hut " + wood + " 1 head 1;", 4, 2);
            }
        }
        for (int n = 0; n <= 12; n++) {
            boolean one = n >= 1 && n <= 9;
            told("hut 9 ", n, " head 1;", 6, one);
            told("hut 9 9 head ", n, ";", 13, n <= 9);
            told(HUT + "chance ", n, " 1;", 22, n <= 9);
            told(HUT + "chance 1 ", n, ";", 24, one);
            told(HUT + "party ", n, " none 1;", 21, one);
        }
        for (int n = 95; n <= 105; n++) {
            told(HUT + "party 1 none ", n, ";", 28, n <= 99);
        }
    }

    private static void told(String ahead, int n, String behind, int place, boolean stands) {
        if (stands) {
            WoodForTwo x = new WoodForTwo();
            c.due(ahead + n + behind, Check.read(x, ahead + n + behind) >= 0 ? 1 : 0, 1);
            c.due("no fault", x.fault(), 0);
        } else {
            fault(ahead + n + behind, place, 2);
        }
    }

    private static void faultsOfTheHut() {
        fault("", 0, 1);
        fault("  \n", 3, 1);
        fault("huts 5 1 head 1;", 0, 1);
        fault("hu 5 1 head 1;", 0, 1);
        fault("hat 5 1 head 1;", 0, 1);
        fault("but 5 1 head 1;", 0, 1);
        fault("hutz 5 1 head 1;", 0, 1);
        fault("hut 5 1 dead 1;", 8, 1);
        fault("hut 5 1 slat 1;", 8, 1);
        fault("hut 5 1 mess 1;", 8, 1);
        fault(" 5 hut 1 head 1;", 1, 1);
        fault("; hut 5 1 head 1;", 0, 1);
        fault("chance 1 1;" + HUT, 0, 1);
        fault("party 1 none 1;" + HUT, 0, 1);
        fault("hut;", 3, 1);
        fault("hut five 1 head 1;", 4, 1);
        fault("hut 5;", 5, 1);
        fault("hut 5 head 1;", 6, 1);
        fault("hut 5 1 1;", 8, 1);
        fault("hut 5 1 heads 1;", 8, 1);
        fault("hut 5 1 hea 1;", 8, 1);
        fault("hut 5 1 hut 1;", 8, 1);
        fault("hut 5 1 keeps 1;", 8, 1);
        fault("hut 5 1 ;", 8, 1);
        fault("hut 5 1 head;", 12, 1);
        fault("hut 5 1 head less;", 13, 1);
        fault("hut 5 1 head 1 1;", 15, 1);
        fault("hut 5 1 head 1 party 1 none 1;", 15, 1);
        fault(HUT + HUT, 15, 1);
        fault(HUT + ";", 15, 1);
        fault(HUT + " 7", 16, 1);
        fault(HUT + "half", 15, 1);
        fault("hut 501 0 head 1;", 4, 2);
        fault("hut 5 0 snow 1;", 6, 2);
        fault("hut 5 1 snow 99;", 8, 1);
    }

    private static void faultsOfChances() {
        fault(HUT + "chance", 21, 1);
        fault(HUT + "chances 1 1;", 15, 1);
        fault(HUT + "shance 1 1;", 15, 1);
        fault(HUT + "chance one 1;", 22, 1);
        fault(HUT + "chance 1;", 23, 1);
        fault(HUT + "chance 1 one;", 24, 1);
        fault(HUT + "chance 1 1", 25, 1);
        fault(HUT + "chance 1 1 1;", 26, 1);
        fault(HUT + "chance 1 1;;", 26, 1);
        fault(HUT + "chance 1 1;chance 1 0;", 33, 2);
        fault(HUT + "chance 1 1;chance 01 1;", 33, 2);
        fault(HUT + "chance 0 1;chance 2 1;chance 9 1;chance 2 1;", 55, 2);
        fault(HUT + "chance 1 1;chance 2 1;chance 0 0;", 46, 2);
        fault(HUT + "chance 1 1;chance 1000 1;", 33, 1);
        WoodForTwo x = new WoodForTwo();
        c.due("a size told in another pass is free", Check.read(x, HUT + "chance 1 1;")
            + Check.read(x, HUT + "chance 1 1;"), 0);
        c.due("the same odds may be told twice", Check.read(x, HUT + "chance 1 4;chance 4 4;"), 0);
    }

    private static void faultsOfParties() {
        fault(HUT + "party", 20, 1);
        fault(HUT + "parties 1 none 1;", 15, 1);
        fault(HUT + "part 1 none 1;", 15, 1);
        fault(HUT + "warty 1 none 1;", 15, 1);
        fault(HUT + "party 1 peeps 1;", 23, 1);
        fault(HUT + "party 1 calf 1;", 23, 1);
        fault(HUT + "party 1 gone 1;", 23, 1);
        fault(HUT + "party 1 neighs 1;", 23, 1);
        fault(HUT + "party none 1 1;", 21, 1);
        fault(HUT + "party 1 1;", 23, 1);
        fault(HUT + "party 1 keep 1;", 23, 1);
        fault(HUT + "party 1 halfs 1;", 23, 1);
        fault(HUT + "party 1 head 1;", 23, 1);
        fault(HUT + "party 1 none;", 27, 1);
        fault(HUT + "party 1 none x;", 28, 1);
        fault(HUT + "party 1 none 1", 29, 1);
        fault(HUT + "party 1 none 1 1;", 30, 1);
        fault(HUT + "party 1 none 1;;", 30, 1);
        fault(HUT + "party 0 steals 100;", 21, 2);
        fault(HUT + "party 1 none 1;chance 1 1;", 30, 1);
        fault(HUT + "party 1 none 1;party 1 none 100;", 43, 2);
    }

    private static void faultsOfTokens() {
        fault("hut 0005 1 head 1;", 4, 1);
        fault("hut 1234567 1 head 1;", 4, 1);
        fault("hut 99999999999999999999999999 1 head 1;", 4, 1);
        fault("hut 4294967301 1 head 1;", 4, 1);
        fault("hut 5 0001 head 1;", 6, 1);
        fault(HUT + "party 1 none 0001;", 28, 1);
        fault("hut 999 1 head 1;", 4, 2);
        fault("hut 5x1 head 1;", 5, 1);
        fault("hut5", 4, 1);
        fault("hut 5 1 headless 1;", 8, 1);
        fault("Hut 5 1 head 1;", 0, 1);
        fault("huT 5 1 head 1;", 0, 1);
        fault("0000", 0, 1);
    }

    private static void room() {
        StringBuilder chances = new StringBuilder(HUT);
        for (int i = 0; i < 6; i++) {
            chances.append("chance ").append(i).append(" 1;");
        }
        WoodForTwo x = new WoodForTwo();
        c.due("6 chances", Check.read(x, chances.toString()), 0);
        c.due("count(2)", x.count(2), 6);
        fault(chances + "chance 6 1;", 81, 3);
        fault(chances + "chance 0 1;", 81, 3);
        fault(chances + "chance 6 10", 81, 3);
        fault(chances + " chance", 82, 3);
        fault(chances + "chances 6 1;", 81, 1);
        fault(chances + "party 1 none 1;chance 6 1;", 96, 1);
        StringBuilder parties = new StringBuilder(HUT);
        for (int i = 0; i < 16; i++) {
            parties.append("party ").append(i % 9 + 1).append(" none ").append(i).append(';');
        }
        c.due("16 parties", Check.read(x, parties.toString()), 16);
        c.due("count(1)", x.count(1), 16);
        c.due("the last one's heads", x.party(15, 0), 7);
        c.due("the last one's toil", x.party(15, 1), 15);
        c.due("party 16", x.party(16, 0), Check.BAD);
        fault(parties + "party 1 none 1;", parties.length(), 3);
        fault(parties + "\nparty", parties.length() + 1, 3);
        fault(parties + "chance 1 1;", parties.length(), 1);
    }

    private static void eachCutText() {
        String all = "hut 12 2 flat 3;chance 0 1;party 3 weighs 17;";
        for (int end = 0; end < all.length(); end++) {
            String text = all.substring(0, end);
            if (text.endsWith(";")) {
                WoodForTwo x = new WoodForTwo();
                c.due(text, Check.read(x, text), 0);
            } else {
                // A name or a number that is cut short may have a fault of its own.
                WoodForTwo x = new WoodForTwo();
                long answer = Check.read(x, text + "  ");
                boolean atEnd = answer == Check.NOT - 100 - end - 2;
                int begin = end;
                while (begin > 0 && Character.isLetterOrDigit(text.charAt(begin - 1))) {
                    begin--;
                }
                boolean atWord = answer == Check.NOT - 100 - begin;
                c.due(text, atEnd || atWord ? 1 : 0, 1);
                c.due("fault()", x.fault(), 1);
            }
        }
    }

    private static void aFaultLeavesThePass() {
        WoodForTwo x = Check.with("hut 20 2 head 2;chance 1 1;chance 2 3;"
            + "party 2 half 3;party 1 keeps 9;");
        x.night(0);
        x.night(1);
        x.ask(0, 0);
        c.due("fault() ahead of one", x.fault(), 0);
        String before = Check.seen(x);
        c.due("a text that goes wrong late", Check.read(x,
            "hut 7 3 flat 1;chance 5 5;party 9 none 1;party 8 none 100;"), Check.NOT - 154);
        c.due("fault()", x.fault(), 2);
        Check.read(x, "hut");
        c.due("fault() of the latest", x.fault(), 1);
        c.same("a fault", before, Check.seen(x).replace("fault 1", "fault 0"));
        c.due("safe as before", x.safe(2, 1, 0, 0), 1);
        c.due("safe as before", x.safe(2, 1, 0, 1), 4);
        Check.read(x, HUT);
        c.due("fault() stays when a text stands", x.fault(), 1);
    }

    private static void aPassInPlaceOfAnother() {
        WoodForTwo x = Check.with("hut 2 2 head 2;chance 1 1;party 9 half 3;party 1 keeps 9;");
        x.night(0);
        x.snow(0);
        Check.fill(x, 2, 1, 2, 3);
        c.due("froze", x.count(5), 8);
        c.due("a pass anew", Check.read(x, "hut 30 3 flat 4;party 2 none 1;"), 1);
        long[] counts = {1, 1, 0, 0, 30, 0, 0};
        for (int what = 0; what <= 6; what++) {
            c.due("count(" + what + ") of it", x.count(what), counts[what]);
        }
        for (int what = 2; what <= 5; what++) {
            c.due("party(0, " + what + ") of it", x.party(0, what), 0);
        }
        c.due("the second party is gone", x.party(1, 0), Check.BAD);
        c.due("no chances any more", x.safe(1, 1, 0, 0), Check.NONE);
        c.due("rows stay", x.drop(2), 3);
        for (int again = 0; again < 4; again++) {
            c.due("a pass anew", Check.read(x, "hut 1 3 flat 4;party 2 none 1;party 1 none 1;"), 2);
            for (int what = 2; what <= 5; what++) {
                c.due("party(0, " + what + ") is 0", x.party(0, what), 0);
                c.due("party(1, " + what + ") is 0", x.party(1, what), 0);
            }
            c.due("no night is gone", x.count(3), 0);
            c.due("nobody froze", x.count(5), 0);
            c.due("wood", x.count(4), 1);
            x.night(0);
            x.night(1);
        }
    }

    private static void fault(String text, int place, int number) {
        WoodForTwo x = new WoodForTwo();
        c.due("pass of '" + text + "'", Check.read(x, text), Check.NOT - 100 - place);
        c.due("fault() of '" + text + "'", x.fault(), number);
        c.due("the tape is empty after '" + text + "'", x.count(6), 0);
        c.due("no pass after '" + text + "'", x.snow(0), Check.STATE);
    }
}
