import java.math.BigInteger;

/** Promises 14 to 16 and 19: safe, stock, send, carry; against odds counted way by way. */
public final class ForetoldTest {
    private static final Check c = new Check("ForetoldTest");
    private static final String[] LAWS = {"head", "flat", "less"};

    public static void main(String[] args) {
        safeByHand();
        safeRefused();
        safeOfMany();
        stockByHand();
        stockRefused();
        sendByHand();
        sendRefused();
        carryByHand();
        carryRefused();
        nothingChanges();
        againstEveryWay();
        c.end();
    }

    private static void safeByHand() {
        WoodForTwo x = Check.with("hut 4 2 head 1;chance 1 1;chance 2 2;chance 3 3;");
        fraction(x, 0, 1, 0, 0, 1);
        fraction(x, 1, 1, 0, 0, 1);
        fraction(x, 2, 1, 0, 1, 6);
        fraction(x, 3, 1, 0, 1, 6);
        fraction(x, 4, 1, 0, 1, 2);
        fraction(x, 6, 1, 0, 1, 1);
        fraction(x, 999, 8, 0, 1, 1);
        fraction(x, 4, 3, 0, 1, 8);
        // By flat, two heads burn 4 and leave 2: then one head alone is warm.
        fraction(x, 4, 2, 1, 1 * 3 + 2 * 1, 36);
        WoodForTwo y = Check.with("hut 4 2 head 1;chance 0 9;");
        fraction(y, 0, 8, 2, 1, 1);
        WoodForTwo z = Check.with("hut 4 2 less 9;chance 0 3;chance 9 1;");
        fraction(z, 0, 1, 2, 3, 4);
        fraction(z, 0, 2, 2, 9, 16);
        fraction(z, 17, 2, 2, 9, 16);
        fraction(z, 18, 8, 2, 1, 1);
        WoodForTwo none = Check.with("hut 4 2 head 0;chance 0 1;chance 1 1;");
        fraction(none, 0, 8, 0, 1, 256);
        fraction(none, 2, 8, 1, 9, 256);
        fraction(none, 15, 8, 0, 255, 256);
        fraction(none, 16, 8, 0, 1, 1);
        // The law that is told does not matter here, only the N with it.
        fraction(none, 4, 2, 2, 1, 1);
    }

    private static void safeOfMany() {
        StringBuilder text = new StringBuilder("hut 1 9 head 1;");
        for (int size = 4; size <= 9; size++) {
            text.append("chance ").append(size).append(" 9;");
        }
        WoodForTwo x = Check.with(text.toString());
        fraction(x, 81, 8, 0, 1, 1);
        fraction(x, 80, 8, 0, 390625, 1679616);
        fraction(x, 36, 8, 0, 1, 1679616);
        fraction(x, 35, 8, 0, 0, 1);
        WoodForTwo y = Check.with("hut 1 9 head 0;chance 9 9;chance 8 9;chance 7 9;chance 6 9;"
            + "chance 5 9;chance 4 8;");
        // Only four heads each night live through it, by 8 of 53.
        fraction(y, 8 * 36, 8, 0, 16777216L, 62259690411361L);
        fraction(y, 8 * 81, 8, 0, 1, 1);
        fraction(y, 8 * 81 - 1, 8, 0, 62259690411361L - 43046721L, 62259690411361L);
    }

    private static void safeRefused() {
        WoodForTwo x = new WoodForTwo();
        c.due("no pass", x.safe(1, 1, 0, 0), Check.STATE);
        c.due("STATE goes ahead of BAD", x.safe(-1, 1, 0, 0), Check.STATE);
        for (int chances = 0; chances < 2; chances++) {
            Check.read(x, "hut 5 1 head 1;" + (chances == 0 ? "" : "chance 1 1;"));
            c.due("w -1", x.safe(-1, 1, 0, 0), Check.BAD);
            c.due("w 1000", x.safe(1000, 1, 0, 0), Check.BAD);
            c.due("n 0", x.safe(1, 0, 0, 0), Check.BAD);
            c.due("n 9", x.safe(1, 9, 0, 0), Check.BAD);
            c.due("n MIN", x.safe(1, Integer.MIN_VALUE, 0, 0), Check.BAD);
            c.due("law -1", x.safe(1, 1, -1, 0), Check.BAD);
            c.due("law 3", x.safe(1, 1, 3, 0), Check.BAD);
            c.due("what -1", x.safe(1, 1, 0, -1), Check.BAD);
            c.due("what 2", x.safe(1, 1, 0, 2), Check.BAD);
        }
        Check.read(x, "hut 5 1 head 1;party 1 keeps 1;");
        c.due("no chances, above", x.safe(1, 1, 0, 0), Check.NONE);
        c.due("no chances, below", x.safe(1, 1, 0, 1), Check.NONE);
    }

    private static void stockByHand() {
        WoodForTwo x = Check.with("hut 4 2 head 1;chance 1 1;chance 2 2;chance 3 3;");
        stock(x, 1, 0, 0, 0);
        stock(x, 1, 0, 1, 2);
        stock(x, 1, 0, 166, 2);
        stock(x, 1, 0, 167, 4);
        stock(x, 1, 0, 500, 4);
        stock(x, 1, 0, 501, 6);
        stock(x, 8, 0, 1000, 6);
        WoodForTwo y = Check.with("hut 4 9 head 0;chance 9 1;chance 0 1;");
        stock(y, 6, 0, 1000, 486);
        stock(y, 7, 1, 1000, Check.NONE);
        stock(y, 7, 1, 992, 486);
        stock(y, 7, 1, 993, Check.NONE);
        stock(y, 1, 0, 500, 0);
        stock(y, 1, 0, 501, 81);
        WoodForTwo edge = Check.with("hut 1 5 less 0;chance 9 9;chance 1 1;chance 5 2;");
        // Nine heads burn 45 and leave 20, so 320 carry eight such nights and no fewer do.
        stock(edge, 8, 2, 1000, 45 + 7 * 25);
        WoodForTwo five = Check.with("hut 1 5 head 0;chance 9 9;chance 5 1;");
        stock(five, 8, 0, 1000, 360);
        WoodForTwo most = Check.with("hut 1 9 less 0;chance 9 1;");
        stock(most, 8, 2, 1000, 81 + 7 * 45);
        stock(most, 6, 0, 1, 486);
        stock(most, 7, 0, 1, Check.NONE);
        // 500 is the last stock looked at: seven nights of nine heads and one of eight burn 497.
        WoodForTwo near = Check.with("hut 1 7 flat 0;chance 9 9;chance 8 1;");
        stock(near, 8, 0, 569, 497);
        stock(near, 8, 0, 570, Check.NONE);
        WoodForTwo last = Check.with("hut 1 4 less 0;chance 8 9;chance 1 1;");
        stock(last, 8, 0, 1000, 256);
    }

    private static void stockRefused() {
        WoodForTwo x = new WoodForTwo();
        c.due("no pass", x.stock(1, 0, 0), Check.STATE);
        c.due("STATE goes ahead of BAD", x.stock(0, 0, 0), Check.STATE);
        for (int chances = 0; chances < 2; chances++) {
            Check.read(x, "hut 5 1 head 1;" + (chances == 0 ? "" : "chance 1 1;"));
            c.due("n 0", x.stock(0, 0, 0), Check.BAD);
            c.due("n 9", x.stock(9, 0, 0), Check.BAD);
            c.due("law -1", x.stock(1, -1, 0), Check.BAD);
            c.due("law 3", x.stock(1, 3, 0), Check.BAD);
            c.due("q -1", x.stock(1, 0, -1), Check.BAD);
            c.due("q 1001", x.stock(1, 0, 1001), Check.BAD);
        }
        Check.read(x, "hut 5 1 head 1;");
        c.due("no chances", x.stock(1, 0, 0), Check.NONE);
    }

    private static void sendByHand() {
        // More wood early is never worse than more wood late, so the first night is due at all times.
        WoodForTwo x = Check.with("hut 0 2 flat 1;chance 0 1;chance 1 2;chance 3 3;");
        for (int n = 1; n <= 8; n++) {
            for (int cut = 1; cut <= 99; cut += 7) {
                c.due("send(" + n + ", " + cut + ")", x.send(n, cut), 1);
            }
        }
        WoodForTwo y = Check.with("hut 500 9 head 9;chance 9 9;chance 0 1;party 9 keeps 1;");
        y.night(0);
        c.due("from much", y.send(8, 99), 1);
        y.night(0);
        c.due("from all", y.send(8, 99), 1);
    }

    private static void sendRefused() {
        WoodForTwo x = new WoodForTwo();
        c.due("no pass", x.send(1, 1), Check.STATE);
        c.due("STATE goes ahead of BAD", x.send(0, 0), Check.STATE);
        for (int chances = 0; chances < 2; chances++) {
            Check.read(x, "hut 5 1 head 1;" + (chances == 0 ? "" : "chance 1 1;"));
            c.due("n 0", x.send(0, 1), Check.BAD);
            c.due("n 9", x.send(9, 1), Check.BAD);
            c.due("x 0", x.send(1, 0), Check.BAD);
            c.due("x -1", x.send(1, -1), Check.BAD);
            c.due("x 100", x.send(1, 100), Check.BAD);
            c.due("x 99", x.send(1, 99), chances == 0 ? Check.NONE : 1);
        }
    }

    private static void carryByHand() {
        WoodForTwo x = Check.with("hut 4 2 head 1;chance 1 1;chance 2 2;chance 3 3;");
        // 6 logs in each are safe; 6 brought cost 12.
        c.due("as much as is needed, no more", x.carry(300, 0, 4), 6);
        c.due("just enough", x.carry(18, 0, 1), 6);
        c.due("half of the odds in each", x.carry(14, 0, 1), 4);
        c.due("one less is no worse", x.carry(13, 0, 1), 4);
        c.due("all to lose", x.carry(5, 0, 1), 0);
        c.due("the fewest of several", x.carry(9, 9, 1), 0);
        c.due("two are worth it", x.carry(10, 4, 1), 2);
        c.due("one is not", x.carry(8, 4, 2), 0);
        WoodForTwo y = Check.with("hut 4 2 flat 1;chance 0 1;chance 1 2;");
        // Nothing stays in a, and that is best: an empty a is safe by a third, a full b by one.
        c.due("nothing in either", y.carry(0, 0, 1), 0);
        c.due("no a is worth b", y.carry(3, 1, 1), 0);
        c.due("a stays warm by 2", y.carry(4, 1, 1), 1);
        WoodForTwo z = Check.with("hut 0 9 head 0;chance 1 1;chance 0 1;");
        c.due("for all of a", z.carry(2, 8, 1), 1);
        c.due("for half of what there is", z.carry(1, 8, 1), 0);
        c.due("down to nothing", z.carry(8, 5, 1), 4);
        WoodForTwo law = Check.with("hut 0 3 flat 0;chance 2 1;");
        // Where nothing is left, four nights need 24 each.
        c.due("by the law as told", law.carry(300, 0, 4), 24);
        WoodForTwo kept = Check.with("hut 0 3 head 1;chance 2 1;");
        c.due("by another law", kept.carry(300, 0, 4), 6);
    }

    private static void carryRefused() {
        WoodForTwo x = new WoodForTwo();
        c.due("no pass", x.carry(0, 0, 1), Check.STATE);
        c.due("STATE goes ahead of BAD", x.carry(0, 0, 0), Check.STATE);
        for (int chances = 0; chances < 2; chances++) {
            Check.read(x, "hut 5 1 head 1;" + (chances == 0 ? "" : "chance 1 1;"));
            c.due("a -1", x.carry(-1, 0, 1), Check.BAD);
            c.due("a 301", x.carry(301, 0, 1), Check.BAD);
            c.due("b -1", x.carry(0, -1, 1), Check.BAD);
            c.due("b 301", x.carry(0, 301, 1), Check.BAD);
            c.due("n 0", x.carry(0, 0, 0), Check.BAD);
            c.due("n 5", x.carry(0, 0, 5), Check.BAD);
            c.due("the most of all", x.carry(300, 300, 4), chances == 0 ? Check.NONE : 0);
        }
    }

    private static void nothingChanges() {
        WoodForTwo x = Check.with("hut 40 2 less 1;chance 1 1;chance 2 2;chance 9 3;"
            + "party 2 half 1;party 3 none 4;");
        x.night(0);
        x.ask(0, 0);
        String before = Check.seen(x);
        x.safe(9, 8, 0, 0);
        x.stock(8, 1, 900);
        x.send(8, 50);
        x.carry(50, 20, 4);
        c.same("what is foretold", before, Check.seen(x));
    }

    /** Every way of every few nights, counted one by one. */
    private static void againstEveryWay() {
        long seed = 20261119;
        for (int run = 0; run < 120; run++) {
            int[] r = new int[24];
            for (int i = 0; i < r.length; i++) {
                seed = seed * 6364136223846793005L + 1442695040888963407L;
                r[i] = (int) (seed >>> 40);
            }
            Ways ways = new Ways(r);
            WoodForTwo x = Check.with(ways.text());
            int n = 1 + r[20] % 4;
            for (int w = 0; w <= 60; w += 1 + r[21] % 5) {
                for (int law = 0; law < 3; law++) {
                    long above = ways.warm(w, n, law, 0, 0);
                    BigInteger all = BigInteger.valueOf(ways.all()).pow(n);
                    BigInteger shared = all.gcd(BigInteger.valueOf(above));
                    fraction(x, w, n, law, above / shared.longValue(),
                        all.divide(shared).longValue());
                }
            }
            for (int law = 0; law < 3; law++) {
                int q = r[22] % 1001;
                c.due("stock", x.stock(n, law, q), ways.stock(n, law, q));
            }
            c.due("send", x.send(n, 1 + r[23] % 99), ways.send(n, 1 + r[23] % 99));
            int a = r[18] % 61;
            int b = r[19] % 31;
            int few = Math.min(n, 3);
            c.due(ways.text() + " carry(" + a + ", " + b + ", " + few + ")", x.carry(a, b, few),
                ways.carry(a, b, few));
        }
    }

    private static void fraction(WoodForTwo x, int w, int n, int law, long above, long below) {
        String call = "safe(" + w + ", " + n + ", " + law + ", ";
        c.due(call + "0)", x.safe(w, n, law, 0), above);
        c.due(call + "1)", x.safe(w, n, law, 1), below);
    }

    private static void stock(WoodForTwo x, int n, int law, int q, long due) {
        c.due("stock(" + n + ", " + law + ", " + q + ")", x.stock(n, law, q), due);
    }

    /** A hut with chances, whose ways are counted by going through each of them. */
    private static final class Ways {
        private final int wood;
        private final int burn;
        private final int law;
        private final int times;
        private final int[] size;
        private final int[] odds;

        Ways(int[] r) {
            wood = r[0] % 40;
            burn = 1 + r[1] % 4;
            law = r[2] % 3;
            times = r[3] % 3;
            size = new int[1 + r[4] % 4];
            odds = new int[size.length];
            for (int i = 0; i < size.length; i++) {
                // Sizes that go round the ten by steps, so that none comes twice.
                size[i] = (r[5] + i * (r[6] % 2 == 0 ? 1 : 3)) % 10;
                odds[i] = 1 + r[7 + i] % 9;
            }
        }

        String text() {
            StringBuilder text = new StringBuilder("hut " + wood + " " + burn + " " + LAWS[law]
                + " " + times + ";");
            for (int i = 0; i < size.length; i++) {
                text.append("chance ").append(size[i]).append(' ').append(odds[i]).append(';');
            }
            return text.toString();
        }

        long all() {
            long all = 0;
            for (int o : odds) {
                all += o;
            }
            return all;
        }

        private int owed(int law, int m) {
            if (m == 0) {
                return 0;
            }
            return law == 0 ? times * m * burn
                : law == 1 ? times * burn : times * burn + (m - 1) * burn / 2;
        }

        /** Ways of n nights from w; x logs come ahead of night 'at' of those left (0: never). */
        long warm(int w, int n, int law, int at, int x) {
            if (n == 0) {
                return 1;
            }
            int there = at == 1 ? Math.min(999, w + x) : w;
            long sum = 0;
            for (int i = 0; i < size.length; i++) {
                int need = size[i] * burn;
                if (need <= there) {
                    int after = Math.min(999, there - need + owed(law, size[i]));
                    sum += odds[i] * warm(after, n - 1, law, at - 1, x);
                }
            }
            return sum;
        }

        long stock(int n, int law, int q) {
            BigInteger all = BigInteger.valueOf(all()).pow(n).multiply(BigInteger.valueOf(q));
            for (int w = 0; w <= 500; w++) {
                BigInteger warm = BigInteger.valueOf(warm(w, n, law, 0, 0));
                if (warm.multiply(BigInteger.valueOf(1000)).compareTo(all) >= 0) {
                    return w;
                }
            }
            return Check.NONE;
        }

        long send(int n, int x) {
            long most = -1;
            int best = 0;
            for (int night = 1; night <= n; night++) {
                long warm = warm(wood, n, law, night, x);
                if (warm > most) {
                    most = warm;
                    best = night;
                }
            }
            return best;
        }

        long carry(int a, int b, int n) {
            long most = -1;
            int best = 0;
            for (int c = 0; 2 * c <= a; c++) {
                long both = warm(a - 2 * c, n, law, 0, 0) * warm(b + c, n, law, 0, 0);
                if (both > most) {
                    most = both;
                    best = c;
                }
            }
            return best;
        }
    }
}
