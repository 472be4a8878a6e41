/**
 * The document's sections 3 and 4 (foretold, kinds, asks) and its images sentence by sentence: each
 * case at its edge, and one log, head, item or night to either side of it.
 */
public final class ForetoldEdgesTest {
    private static final Check c = new Check("ForetoldEdgesTest");
    private static final String[] LAWS = {"head", "flat", "less"};
    private static final String[] WAYS = {"keeps", "half", "none", "weighs"};

    public static void main(String[] args) {
        safeToTheLog();
        nobodyBurnsAndLeavesNothing();
        fractionsInLowestTerms();
        safeFromAWoodOfItsOwn();
        stockToTheLog();
        stockToTheThousandth();
        stockUpTo500();
        sendAheadOfTheFirst();
        noChances();
        brokeToTheLog();
        brokeByBits();
        liesToTheLog();
        liesByBits();
        carryToTheLog();
        carryAtMostA();
        carryTheFewest();
        kindsByWayAndHeads();
        asksOfEachKind();
        askedAnew();
        traceIsOfTheLatestAsk();
        imagesOfThePassAlone();
        imagesStayApart();
        c.end();
    }

    /** What nights of m heads alone need, so that nobody freezes in the last of them. */
    private static int need(int m, int burn, int due, int n) {
        return m * burn + Math.max(0, (n - 1) * (m * burn - due));
    }

    private static int due(int law, int times, int m, int burn) {
        return law == 0 ? times * m * burn : times * burn + (law == 1 ? 0 : (m - 1) * burn / 2);
    }

    private static void safeToTheLog() {
        for (int m = 1; m <= 9; m += 2) {
            for (int burn = 1; burn <= 9; burn += 4) {
                for (int times = 0; times <= 2; times++) {
                    WoodForTwo x = Check.with("hut 0 " + burn + " head " + times + ";chance " + m + " 5;");
                    for (int n = 1; n <= 8; n++) {
                        for (int law = 0; law < 3; law++) {
                            int need = need(m, burn, due(law, times, m, burn), n);
                            fraction(x, need, n, law, 1, 1);
                            fraction(x, need - 1, n, law, 0, 1);
                        }
                    }
                }
            }
        }
        WoodForTwo x = Check.with("hut 0 9 head 0;chance 9 1;");
        fraction(x, 648, 8, 0, 1, 1);
        fraction(x, 647, 8, 0, 0, 1);
        fraction(x, 567, 7, 1, 1, 1);
        fraction(x, 566, 7, 1, 0, 1);
        fraction(x, 999, 8, 2, 1, 1);
        fraction(x, 0, 1, 2, 0, 1);
        WoodForTwo many = Check.with("hut 0 9 head 9;chance 9 1;");
        fraction(many, 999, 8, 0, 1, 1);
        fraction(many, 81, 8, 0, 1, 1);
    }

    private static void nobodyBurnsAndLeavesNothing() {
        for (int law = 0; law < 3; law++) {
            WoodForTwo x = Check.with("hut 0 1 " + LAWS[law] + " 9;chance 0 1;chance 1 1;");
            // One head burns one log; nobody, ahead of it, left none. After one head there are nine.
            fraction(x, 0, 1, law, 1, 2);
            fraction(x, 0, 2, law, 1, 4);
            fraction(x, 0, 8, law, 1, 256);
            fraction(x, 1, 8, law, 1, 1);
            WoodForTwo y = Check.with("hut 0 9 " + LAWS[law] + " 0;chance 0 7;");
            fraction(y, 0, 8, law, 1, 1);
            c.due("stock for nobody", y.stock(8, law, 1000), 0);
        }
    }

    private static void fractionsInLowestTerms() {
        WoodForTwo x = Check.with("hut 0 1 head 0;chance 1 2;chance 2 4;chance 3 6;");
        fraction(x, 0, 1, 0, 0, 1);
        fraction(x, 1, 1, 0, 1, 6);
        fraction(x, 2, 1, 0, 1, 2);
        fraction(x, 3, 1, 0, 1, 1);
        fraction(x, 2, 2, 0, 1, 36);
        fraction(x, 3, 2, 0, 5, 36);
        fraction(x, 5, 2, 0, 3, 4);
        fraction(x, 6, 2, 0, 1, 1);
        WoodForTwo y = Check.with("hut 0 1 head 0;chance 1 9;chance 2 8;");
        fraction(y, 1, 1, 0, 9, 17);
        fraction(y, 8, 8, 0, 43046721L, 6975757441L);
        fraction(y, 15, 8, 0, 6975757441L - 16777216L, 6975757441L);
    }

    private static void safeFromAWoodOfItsOwn() {
        for (int wood = 0; wood <= 500; wood += 250) {
            for (int told = 0; told < 3; told++) {
                WoodForTwo x = Check.with("hut " + wood + " 2 " + LAWS[told] + " 1;chance 3 1;party 3 none 1;");
                for (int again = 0; again < 2; again++) {
                    // The law of the call, not the one that is told: 6 due, 2 due, 4 due.
                    fraction(x, 6, 2, 0, 1, 1);
                    fraction(x, 9, 2, 1, 0, 1);
                    fraction(x, 10, 2, 1, 1, 1);
                    fraction(x, 7, 2, 2, 0, 1);
                    fraction(x, 8, 2, 2, 1, 1);
                    c.due("stock by head", x.stock(2, 0, 1), 6);
                    c.due("stock by flat", x.stock(2, 1, 1), 10);
                    c.due("stock by less", x.stock(2, 2, 1), 8);
                    c.due("wood stays", x.count(4), again == 0 ? wood : Math.max(0, wood - 6));
                    x.night(0);
                }
            }
        }
    }

    private static void stockToTheLog() {
        for (int m = 1; m <= 9; m += 4) {
            for (int burn = 1; burn <= 9; burn += 2) {
                for (int times = 0; times <= 1; times++) {
                    WoodForTwo x = Check.with("hut 9 " + burn + " flat " + times + ";chance " + m + " 2;");
                    for (int n = 1; n <= 8; n++) {
                        for (int law = 0; law < 3; law++) {
                            int need = need(m, burn, due(law, times, m, burn), n);
                            long due = need <= 500 ? need : Check.NONE;
                            c.due("stock of " + n + " by " + law + ", 1", x.stock(n, law, 1), due);
                            c.due("stock of " + n + " by " + law + ", 1000", x.stock(n, law, 1000), due);
                            c.due("stock of " + n + " by " + law + ", 0", x.stock(n, law, 0), 0);
                        }
                    }
                }
            }
        }
    }

    private static void stockToTheThousandth() {
        // One by 125 of 1000, nine by the rest.
        WoodForTwo x = Check.with("hut 0 2 head 0;chance 1 1;chance 9 7;");
        stock(x, 1, 0, 0);
        stock(x, 1, 1, 2);
        stock(x, 1, 124, 2);
        stock(x, 1, 125, 2);
        stock(x, 1, 126, 18);
        stock(x, 1, 999, 18);
        stock(x, 1, 1000, 18);
        // Two of them by 15.625, one of them or two by 234.375, each by all.
        stock(x, 2, 15, 4);
        stock(x, 2, 16, 20);
        stock(x, 2, 234, 20);
        stock(x, 2, 235, 36);
        stock(x, 2, 1000, 36);
        // A third is more than 333 of 1000, and less than 334; two thirds are so by 666 and 667.
        WoodForTwo third = Check.with("hut 0 1 head 0;chance 1 3;chance 2 3;chance 3 3;");
        stock(third, 1, 333, 1);
        stock(third, 1, 334, 2);
        stock(third, 1, 666, 2);
        stock(third, 1, 667, 3);
        // All but one of 54 to the 8: below 1000 of 1000 by a hair.
        WoodForTwo hair = Check.with("hut 0 1 head 0;chance 9 1;chance 8 9;chance 7 9;"
            + "chance 6 9;chance 5 9;chance 4 9;");
        stock(hair, 8, 1000, 72);
        c.due("q 999 is kept by less", hair.stock(8, 0, 999) < 72 ? 1 : 0, 1);
        fraction(hair, 71, 8, 0, 20047612231935L, 20047612231936L);
    }

    private static void stockUpTo500() {
        // Seven by nine heads and eight nights burn 504, with one of eight heads 497.
        WoodForTwo x = Check.with("hut 0 7 head 0;chance 9 1;");
        stock(x, 7, 1000, 441);
        stock(x, 8, 1, Check.NONE);
        stock(x, 8, 0, 0);
        WoodForTwo one = Check.with("hut 0 7 head 0;chance 9 9;chance 8 1;");
        stock(one, 8, 1000, Check.NONE);
        stock(one, 8, 569, 497);
        stock(one, 8, 570, Check.NONE);
        WoodForTwo eight = Check.with("hut 0 8 head 0;chance 9 1;chance 8 1;");
        // 8 times 62 is 496: six nights of eight heads at least; 8 times 63 would be 504.
        stock(eight, 7, 1, 448);
        stock(eight, 7, 992, 496);
        stock(eight, 7, 993, Check.NONE);
    }

    private static void sendAheadOfTheFirst() {
        for (int law = 0; law < 3; law++) {
            WoodForTwo x = Check.with("hut 7 3 " + LAWS[law] + " 1;chance 0 1;chance 1 2;chance 4 3;party 2 none 1;");
            for (int n = 1; n <= 8; n++) {
                c.due("send(" + n + ", 1)", x.send(n, 1), 1);
                c.due("send(" + n + ", 12)", x.send(n, 12), 1);
                c.due("send(" + n + ", 99)", x.send(n, 99), 1);
            }
            x.night(0);
            c.due("of several, each as good, the first", x.send(8, 1), 1);
            c.due("wood stays", x.count(4), 1);
            c.due("nights stay", x.count(3), 1);
        }
        WoodForTwo cold = Check.with("hut 0 9 head 0;chance 9 1;");
        c.due("where all are frozen, the first", cold.send(8, 99), 1);
        WoodForTwo full = Check.with("hut 500 9 head 9;chance 9 1;party 9 keeps 1;");
        full.night(0);
        c.due("where there is no room for more, the first", full.send(8, 99), 1);
    }

    private static void noChances() {
        WoodForTwo x = Check.with("hut 500 1 head 1;party 1 keeps 1;");
        c.due("safe, above", x.safe(999, 8, 2, 0), Check.NONE);
        c.due("safe, below", x.safe(0, 1, 0, 1), Check.NONE);
        c.due("stock of 0", x.stock(1, 0, 0), Check.NONE);
        c.due("stock of 1000", x.stock(8, 2, 1000), Check.NONE);
        c.due("send", x.send(8, 99), Check.NONE);
        c.due("carry", x.carry(0, 0, 1), Check.NONE);
        c.due("BAD goes ahead of NONE: safe", x.safe(1000, 1, 0, 0), Check.BAD);
        c.due("BAD goes ahead of NONE: stock", x.stock(9, 0, 0), Check.BAD);
        c.due("BAD goes ahead of NONE: send", x.send(0, 1), Check.BAD);
        c.due("BAD goes ahead of NONE: carry", x.carry(301, 0, 1), Check.BAD);
    }

    // ---- broke, lies, carry.

    private static void brokeToTheLog() {
        for (int law = 0; law < 3; law++) {
            for (int heads = 1; heads <= 9; heads += 4) {
                WoodForTwo x = Check.with("hut 0 3 " + LAWS[law] + " 1;");
                int burns = 3 * heads;
                int due = due(law, 1, heads, 3);
                int[] evenings = {0, 1, burns - 1, burns, burns + 1, 500, 999};
                for (int evening : evenings) {
                    int rest = Math.max(0, evening - burns);
                    for (int left = due - 2; left <= due + 1; left++) {
                        if (rest + left >= 0 && rest + left <= 999) {
                            night(x, heads, evening, rest + left, Math.max(0, due - left));
                        }
                    }
                    night(x, heads, evening, 999, rest + due > 999 ? rest + due - 999 : 0);
                    // What is gone beyond what was burnt lacks as well.
                    night(x, heads, evening, 0, due + rest);
                }
            }
        }
        WoodForTwo none = Check.with("hut 0 3 head 0;");
        night(none, 9, 5, 0, 0);
        night(none, 9, 28, 1, 0);
        night(none, 9, 28, 0, 1);
    }

    private static void night(WoodForTwo x, int heads, int evening, int morning, int lacks) {
        x.row(0, 1, 3);
        x.set(0, 0, heads);
        x.set(0, 1, evening);
        x.set(0, 2, morning);
        String told = heads + " heads, " + evening + ", " + morning;
        c.due("who of " + told, x.broke(0, 1, 0), lacks > 0 ? 1 : 0);
        c.due("by how much of " + told, x.broke(0, 1, 1), lacks);
    }

    private static void brokeByBits() {
        for (int who = 0; who < 13; who++) {
            WoodForTwo x = Check.with("hut 0 1 flat 2;");
            int[] items = new int[39];
            for (int k = 0; k < 13; k++) {
                items[3 * k] = 1;
                items[3 * k + 1] = 10;
                items[3 * k + 2] = 11;
            }
            items[3 * who + 2] = 10 - who % 2;
            Check.fill(x, 0, items);
            for (int m = 1; m <= 13; m++) {
                c.due("night " + who + " of " + m, x.broke(0, m, 0), m > who ? 1L << who : 0);
                c.due("by how much, of " + m, x.broke(0, m, 1), m > who ? 1 + who % 2 : 0);
            }
        }
    }

    private static void liesToTheLog() {
        WoodForTwo x = new WoodForTwo();
        int[] ends = {0, 1, 2, 500, 998, 999};
        for (int wrote : ends) {
            for (int left : ends) {
                Check.fill(x, 0, wrote, left);
                c.due(wrote + " for " + left, x.lies(0, 1, 0), wrote > left ? 1 : 0);
                c.due(wrote + " for " + left + ", who", x.lies(0, 1, 1), wrote > left ? 0 : Check.NONE);
            }
        }
    }

    private static void liesByBits() {
        for (int first = 0; first < 20; first += 3) {
            for (int second = first + 1; second < 20; second += 5) {
                for (int by = -1; by <= 1; by++) {
                    WoodForTwo x = new WoodForTwo();
                    int[] items = new int[40];
                    items[2 * first] = 5;
                    items[2 * second] = 9;
                    items[2 * second + 1] = 4 - by;
                    Check.fill(x, 0, items);
                    c.due("who", x.lies(0, 20, 0), 1L << first | 1L << second);
                    c.due("most, of several the first", x.lies(0, 20, 1), by > 0 ? second : first);
                    c.due("who, of fewer", x.lies(0, second, 0), 1L << first);
                    c.due("most, of fewer", x.lies(0, second, 1), first);
                    c.due("nobody", first == 0 ? Check.NONE : x.lies(0, first, 1), Check.NONE);
                }
            }
        }
    }

    private static void carryToTheLog() {
        // One head each night, who leaves what he burns: 9 logs are safe, 8 are not.
        WoodForTwo x = Check.with("hut 0 9 head 1;chance 1 1;");
        for (int n = 1; n <= 4; n++) {
            for (int more = 0; more <= 9; more++) {
                c.due("for " + more, x.carry(9 + 2 * more, 9 - more, n), more);
                c.due("for " + more + ", a log short", x.carry(9 + 2 * more - 1, 9 - more, n), 0);
                c.due("for " + more + ", much in a", x.carry(300, 9 - more, n), more);
            }
        }
        c.due("much in both", x.carry(300, 300, 4), 0);
        WoodForTwo far = Check.with("hut 0 9 head 0;chance 3 1;");
        c.due("four nights want 108", far.carry(300, 12, 4), 96);
        c.due("four nights want 108, in a, too", far.carry(300, 11, 4), 0);
        c.due("three nights want 81", far.carry(243, 0, 3), 81);
        c.due("three nights want 81, in a, too", far.carry(242, 0, 3), 0);
        for (int law = 0; law < 3; law++) {
            WoodForTwo y = Check.with("hut 0 2 " + LAWS[law] + " 1;chance 3 1;");
            int need = need(3, 2, due(law, 1, 3, 2), 4);
            c.due("the law as told: " + LAWS[law], y.carry(300, 0, 4), need);
            c.due("the law as told, just so", y.carry(3 * need, 0, 4), need);
            c.due("the law as told, a log short", y.carry(3 * need - 1, 0, 4), 0);
        }
    }

    private static void carryAtMostA() {
        // Nobody comes by a half, so that an empty hut is safe by that.
        WoodForTwo x = Check.with("hut 0 9 head 0;chance 0 1;chance 1 1;");
        for (int more = 1; more <= 4; more++) {
            c.due("all of a, " + more, x.carry(2 * more, 9 - more, 1), more);
            c.due("all of a but one is too few, " + more, x.carry(2 * more - 1, 9 - more, 1), 0);
        }
        // Nine in a are safe by themselves: a whole and a half are as good as a half and a whole.
        c.due("all of a and one over", x.carry(7, 6, 1), 3);
        c.due("all of a and one over, no better", x.carry(9, 5, 1), 0);
        c.due("no worse, so none", x.carry(10, 4, 1), 0);
        c.due("a is empty", x.carry(0, 8, 1), 0);
        c.due("a has one", x.carry(1, 8, 1), 0);
        c.due("a has two", x.carry(2, 8, 1), 1);
    }

    private static void carryTheFewest() {
        WoodForTwo x = Check.with("hut 0 1 head 0;chance 1 1;chance 2 1;");
        c.due("both safe", x.carry(2, 2, 1), 0);
        c.due("none is safe by any", x.carry(1, 0, 1), 0);
        c.due("by one", x.carry(3, 0, 1), 1);
        c.due("by one is as good as by two", x.carry(5, 0, 1), 1);
        c.due("by two", x.carry(6, 0, 1), 2);
        c.due("a half for a half is none", x.carry(3, 1, 1), 0);
        c.due("b by one more", x.carry(4, 1, 1), 1);
        // The product counts, not the sum: a whole and none are worse than two halves.
        c.due("two halves", x.carry(4, 0, 1), 1);
    }

    // ---- kinds, asks, images.

    private static void kindsByWayAndHeads() {
        for (int way = 0; way < 4; way++) {
            for (int heads = 1; heads <= 9; heads++) {
                WoodForTwo x = Check.with("hut 9 1 head 1;party " + heads + " " + WAYS[way] + " 0;");
                int kind = way == 0 && heads == 1 ? 5 : way + 1;
                c.due(heads + " " + WAYS[way], x.kind(0), kind);
                for (int as = 0; as <= 5; as++) {
                    boolean is = as == 0 || as == kind || as == 1 && (kind == 2 || kind == 5);
                    c.dueStatus(x, heads + " " + WAYS[way] + " as " + as, x.as(0, as),
                        is ? 0 : Check.KIND, is ? 0 : 3);
                }
            }
        }
        WoodForTwo x = Check.with("hut 9 1 head 1;party 1 half 0;party 2 none 0;party 1 keeps 0;");
        c.due("as() tells the number", x.as(2, 1), 2);
        c.due("as() tells the number", x.as(1, 3), 1);
    }

    private static void asksOfEachKind() {
        for (int heads = 1; heads <= 9; heads += 4) {
            for (int law = 0; law < 3; law++) {
                StringBuilder text = new StringBuilder("hut 9 3 " + LAWS[law] + " 2;");
                for (String way : WAYS) {
                    text.append("party ").append(heads).append(' ').append(way).append(" 99;");
                }
                WoodForTwo x = Check.with(text.toString());
                int mark = 10 * due(law, 2, heads, 3);
                if (heads == 1) {
                    ask(x, 0, 0, 2 * (1 + mark - 1000), 14, 11, 10, 24, 21, 20);
                    ask(x, 0, 1, mark - 1000, 24, 21, 20);
                } else {
                    ask(x, 0, 0, heads + mark, 11, 10, 21, 20);
                    ask(x, 0, 1, mark, 21, 20);
                }
                ask(x, 1, 0, -(heads + 1 + mark), 12, 11, 10, 21, 20);
                ask(x, 1, 1, 1 + mark, 21, 20);
                ask(x, 2, 0, heads - 100, 13, 10);
                ask(x, 2, 1, 2 - (heads - 100), 23, 20, 13, 10);
                ask(x, 3, 0, heads, 10);
                ask(x, 3, 1, 3 + 99, 22, 20);
            }
        }
    }

    private static void askedAnew() {
        WoodForTwo x = Check.with("hut 9 9 head 9;party 9 half 1;party 1 keeps 1;");
        ask(x, 0, 0, -(9 + 7290), 12, 11, 10, 21, 20);
        x.night(0);
        x.night(1);
        ask(x, 0, 0, -(9 + 7290), 12, 11, 10, 21, 20);
        ask(x, 1, 0, 2 * (1 + 1 + 810 - 1000), 14, 11, 10, 24, 21, 20);
        Check.read(x, "hut 9 1 flat 0;party 1 keeps 1;");
        ask(x, 0, 0, 2 * (1 - 1000), 14, 11, 10, 24, 21, 20);
        StringBuilder many = new StringBuilder("hut 9 1 flat 0;");
        for (int i = 0; i < 16; i++) {
            many.append("party 1 none 0;");
        }
        Check.read(x, many.toString());
        ask(x, 15, 1, 15 - (1 - 100), 23, 20, 13, 10);
        ask(x, 15, 0, 1 - 100, 13, 10);
    }

    private static void traceIsOfTheLatestAsk() {
        WoodForTwo x = new WoodForTwo();
        c.due("empty", x.trace(0), Check.NONE);
        x.ask(0, 0);
        c.due("refused", x.trace(0), Check.NONE);
        Check.read(x, "hut 9 1 head 1;party 1 keeps 1;party 1 none 1;");
        ask(x, 0, 0, 2 * (1 + 10 - 1000), 14, 11, 10, 24, 21, 20);
        x.ask(2, 0);
        x.ask(-1, 0);
        x.ask(0, 2);
        x.ask(0, -1);
        trace(x, 14, 11, 10, 24, 21, 20);
        x.kind(1);
        x.as(1, 3);
        x.as(1, 1);
        x.night(1);
        x.party(1, 0);
        x.image(0);
        x.restore(0);
        Check.read(x, "hut 9 1 head 1;party 1 none 1;");
        Check.read(x, "hut");
        trace(x, 14, 11, 10, 24, 21, 20);
        ask(x, 0, 0, -99, 13, 10);
    }

    private static void imagesOfThePassAlone() {
        WoodForTwo x = Check.with("hut 9 2 head 1;chance 1 1;chance 3 2;party 1 keeps 5;party 6 none 9;");
        Check.fill(x, 0, 5, 6);
        x.night(1);
        x.image(0);
        String kept = Check.seen(x);
        x.night(1);
        x.snow(3);
        Check.fill(x, 0, 7, 8, 9, 9);
        Check.fill(x, 1, 1);
        Check.read(x, "hut 7 0 head 1;");
        x.ask(1, 1);
        x.as(1, 4);
        x.feed(0x68, 1);
        c.due("restore", x.restore(0), 1);
        c.due("rows are not of it", x.drop(0), 4);
        c.due("nor are others", x.drop(1), 1);
        c.due("nor is the tape", x.count(6), 1);
        c.due("nor is fault()", x.fault(), 2);
        c.due("nor is the trace", x.trace(0), 23);
        WoodForTwo y = Check.with("hut 9 2 head 1;chance 1 1;chance 3 2;party 1 keeps 5;party 6 none 9;");
        Check.fill(y, 0, 5, 6);
        y.night(1);
        c.same("the same calls once more", kept, Check.seen(y));
        Check.fill(x, 0, 5, 6);
        c.due("status() stays", x.restore(0) + x.status(), 1);
        x.as(0, 3);
        c.due("status() stays", x.restore(0) + x.status(), 4);
        c.due("wood", x.count(4), 0);
        c.due("nights", x.count(3), 1);
        c.due("froze", x.count(5), 2);
        c.due("the first did not sleep", x.party(0, 2), 0);
        c.due("its toil", x.party(0, 1), 5);
        c.due("slept", x.party(1, 2), 1);
        c.due("froze of it", x.party(1, 3), 2);
        c.due("left", x.party(1, 4), 0);
        c.due("lacked", x.party(1, 5), 12);
        fraction(x, 2, 1, 0, 1, 3);
    }

    private static void imagesStayApart() {
        WoodForTwo x = Check.with("hut 100 1 head 0;chance 1 1;party 1 keeps 0;");
        c.due("image(0)", x.image(0), 1);
        c.due("restore(1) while there is but the other", x.restore(1), Check.STATE);
        x.night(0);
        c.due("image(1)", x.image(1), 1);
        for (int i = 0; i < 5; i++) {
            x.night(0);
            c.due("restore(0)", x.restore(0), 1);
            c.due("wood", x.count(4), 100);
            c.due("slept", x.party(0, 2), 0);
            x.snow(50);
            c.due("restore(1)", x.restore(1), 1);
            c.due("wood", x.count(4), 99);
            c.due("slept", x.party(0, 2), 1);
        }
        Check.read(x, "hut 7 1 head 0;chance 9 1;chance 8 1;");
        c.due("an image in place of one", x.image(0), 1);
        x.restore(1);
        c.due("the other stays", x.count(4), 99);
        c.due("its chances", x.safe(1, 1, 0, 0), 1);
        x.restore(0);
        c.due("no parties", x.count(1), 0);
        c.due("no such party", x.night(0), Check.BAD);
        c.due("two chances", x.count(2), 2);
        c.due("its chances", x.safe(8, 1, 0, 1), 2);
    }

    private static void fraction(WoodForTwo x, int w, int n, int law, long above, long below) {
        String call = "safe(" + w + ", " + n + ", " + law + ", ";
        c.due(call + "0)", x.safe(w, n, law, 0), above);
        c.due(call + "1)", x.safe(w, n, law, 1), below);
    }

    private static void stock(WoodForTwo x, int n, int q, long due) {
        c.due("stock(" + n + ", 0, " + q + ")", x.stock(n, 0, q), due);
    }

    private static void ask(WoodForTwo x, int party, int what, long answer, int... bodies) {
        c.due("ask(" + party + ", " + what + ")", x.ask(party, what), answer);
        trace(x, bodies);
    }

    private static void trace(WoodForTwo x, int... bodies) {
        for (int i = 0; i < 7; i++) {
            c.due("trace(" + i + ")", x.trace(i), i < bodies.length ? bodies[i] : Check.NONE);
        }
    }
}
