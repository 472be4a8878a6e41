/** Promises 20 to 25: image, restore, kind, as, ask, trace. */
public final class AskedTest {
    private static final Check c = new Check("AskedTest");
    private static final String ALL = "hut 50 3 less 2;chance 1 2;chance 4 3;"
        + "party 1 keeps 5;party 4 keeps 6;party 3 half 7;party 1 half 8;"
        + "party 2 none 9;party 5 weighs 10;party 1 none 1;party 1 weighs 2;";

    public static void main(String[] args) {
        imagesKeepAll();
        imagesAreTwo();
        imagesOutlastAPass();
        imagesRefused();
        kinds();
        takenAs();
        askedSizes();
        askedMarks();
        askedByTheLawAsTold();
        askRefused();
        traces();
        c.end();
    }

    private static void imagesKeepAll() {
        WoodForTwo x = Check.with(ALL);
        for (int p = 0; p < 8; p++) {
            x.night(p);
        }
        x.snow(30);
        x.night(4);
        x.night(5);
        String first = Check.seen(x);
        c.due("image(0)", x.image(0), 1);
        c.same("image", first, Check.seen(x));
        x.night(2);
        x.night(4);
        x.snow(9);
        c.due("restore(0)", x.restore(0), 1);
        c.same("restore(0)", first, Check.seen(x));
    }

    private static void imagesAreTwo() {
        WoodForTwo x = Check.with("hut 50 3 less 2;chance 1 2;party 1 keeps 5;party 4 none 6;");
        x.night(1);
        String first = Check.seen(x);
        x.image(0);
        x.night(1);
        x.snow(9);
        String second = Check.seen(x);
        c.due("image(1)", x.image(1), 1);
        x.night(0);
        x.restore(0);
        c.same("restore(0)", first, Check.seen(x));
        x.night(0);
        c.due("restore(1)", x.restore(1), 1);
        c.same("restore(1)", second, Check.seen(x));
        c.due("restore(0) again", x.restore(0), 1);
        c.same("restore(0) again", first, Check.seen(x));
        x.night(1);
        String third = Check.seen(x);
        x.image(0);
        x.night(1);
        x.restore(0);
        c.same("an image in place of another", third, Check.seen(x));
    }

    private static void imagesOutlastAPass() {
        WoodForTwo x = Check.with(ALL);
        x.night(2);
        x.night(4);
        String before = Check.seen(x);
        long odds = x.safe(9, 4, 2, 0);
        long below = x.safe(9, 4, 2, 1);
        x.image(1);
        Check.read(x, "hut 7 1 flat 1;chance 9 9;party 9 half 3;");
        x.night(0);
        c.due("restore(0), never kept", x.restore(0), Check.STATE);
        Check.feed(x, "hut");
        c.due("restore(1)", x.restore(1), 1);
        c.due("the tape stays", x.count(6), 3);
        x.pass();
        c.due("odds as before, above", x.safe(9, 4, 2, 0), odds);
        c.due("odds as before, below", x.safe(9, 4, 2, 1), below);
        WoodForTwo y = Check.with(ALL);
        y.night(2);
        y.night(4);
        y.pass();
        c.same("restore after another pass", Check.seen(y), Check.seen(x));
        Check.read(x, "hut 7 1 flat 1;");
        x.image(1);
        Check.read(x, ALL);
        x.restore(1);
        c.due("an image without parties", x.count(1), 0);
        c.due("an image without chances", x.safe(1, 1, 0, 0), Check.NONE);
        Check.fill(x, 0, 4, 5);
        x.restore(1);
        c.due("rows stay", x.drop(0), 2);
        c.due("as it was", before.isEmpty() ? 1 : 0, 0);
    }

    private static void imagesRefused() {
        WoodForTwo x = new WoodForTwo();
        c.due("image(0), no pass", x.image(0), Check.STATE);
        c.due("image(1), no pass", x.image(1), Check.STATE);
        c.due("image(-1)", x.image(-1), Check.BAD);
        c.due("image(2)", x.image(2), Check.BAD);
        c.due("restore(0), none kept", x.restore(0), Check.STATE);
        c.due("restore(1), none kept", x.restore(1), Check.STATE);
        c.due("restore(-1)", x.restore(-1), Check.BAD);
        c.due("restore(2)", x.restore(2), Check.BAD);
        Check.read(x, ALL);
        c.due("image(1)", x.image(1), 1);
        c.due("restore(0), none kept there", x.restore(0), Check.STATE);
        c.due("image(-1)", x.image(-1), Check.BAD);
        c.due("image(2)", x.image(2), Check.BAD);
        c.due("restore(-1)", x.restore(-1), Check.BAD);
        c.due("restore(2)", x.restore(2), Check.BAD);
    }

    private static void kinds() {
        WoodForTwo x = Check.with(ALL);
        long[] kinds = {5, 1, 2, 2, 3, 4, 3, 4};
        for (int p = 0; p < 8; p++) {
            c.due("kind(" + p + ")", x.kind(p), kinds[p]);
        }
        c.due("kind(-1)", x.kind(-1), Check.BAD);
        c.due("kind(8)", x.kind(8), Check.BAD);
        c.due("kind without a pass", new WoodForTwo().kind(0), Check.BAD);
    }

    private static void takenAs() {
        WoodForTwo x = Check.with(ALL);
        // What each is: bits of the kinds.
        int[] is = {1 + 2 + 32, 1 + 2, 1 + 2 + 4, 1 + 2 + 4, 1 + 8, 1 + 16, 1 + 8, 1 + 16};
        for (int p = 0; p < 8; p++) {
            for (int kind = 0; kind <= 5; kind++) {
                boolean one = (is[p] >> kind & 1) == 1;
                c.dueStatus(x, "as(" + p + ", " + kind + ")", x.as(p, kind),
                    one ? p : Check.KIND, one ? 0 : 3);
            }
        }
        c.due("kind after as", x.kind(0), 5);
        c.due("as(-1, 0)", x.as(-1, 0), Check.BAD);
        c.due("as(8, 0)", x.as(8, 0), Check.BAD);
        c.due("as(0, -1)", x.as(0, -1), Check.BAD);
        c.due("as(0, 6)", x.as(0, 6), Check.BAD);
        c.due("as without a pass", new WoodForTwo().as(0, 0), Check.BAD);
    }

    private static void askedSizes() {
        WoodForTwo x = Check.with(ALL);
        // By less, N 2 and 3 a head: 6 for one head, 10 for four, 9 for three.
        ask(x, 0, 0, 2 * (1 + 0 + 60 - 1000), 14, 11, 10, 24, 21, 20);
        ask(x, 1, 0, 4 + 1 + 100, 11, 10, 21, 20);
        ask(x, 2, 0, -(3 + 2 + 90), 12, 11, 10, 21, 20);
        ask(x, 3, 0, -(1 + 3 + 60), 12, 11, 10, 21, 20);
        ask(x, 4, 0, 2 - 100, 13, 10);
        ask(x, 5, 0, 5, 10);
        ask(x, 6, 0, 1 - 100, 13, 10);
        ask(x, 7, 0, 1, 10);
    }

    private static void askedMarks() {
        WoodForTwo x = Check.with(ALL);
        ask(x, 0, 1, 0 + 60 - 1000, 24, 21, 20);
        ask(x, 1, 1, 1 + 100, 21, 20);
        ask(x, 2, 1, 2 + 90, 21, 20);
        ask(x, 3, 1, 3 + 60, 21, 20);
        ask(x, 4, 1, 4 - (2 - 100), 23, 20, 13, 10);
        ask(x, 5, 1, 5 + 10, 22, 20);
        ask(x, 6, 1, 6 - (1 - 100), 23, 20, 13, 10);
        ask(x, 7, 1, 7 + 2, 22, 20);
    }

    private static void askedByTheLawAsTold() {
        String[] laws = {"head", "flat", "less"};
        int[] owed = {3 * 4 * 2, 3 * 2, 3 * 2 + 3};
        for (int law = 0; law < 3; law++) {
            WoodForTwo x = Check.with("hut 9 2 " + laws[law] + " 3;party 4 keeps 1;");
            ask(x, 0, 1, 10 * owed[law], 21, 20);
            ask(x, 0, 0, 4 + 10 * owed[law], 11, 10, 21, 20);
        }
        WoodForTwo x = Check.with("hut 9 2 head 3;party 4 keeps 1;");
        x.image(0);
        Check.read(x, "hut 9 1 flat 1;party 2 keeps 1;party 3 keeps 2;");
        ask(x, 1, 1, 1 + 10, 21, 20);
        x.restore(0);
        ask(x, 0, 1, 240, 21, 20);
    }

    private static void askRefused() {
        WoodForTwo x = new WoodForTwo();
        c.due("ask without a pass", x.ask(0, 0), Check.BAD);
        Check.read(x, ALL);
        x.ask(4, 0);
        c.due("ask(-1, 0)", x.ask(-1, 0), Check.BAD);
        c.due("ask(8, 0)", x.ask(8, 0), Check.BAD);
        c.due("ask(0, -1)", x.ask(0, -1), Check.BAD);
        c.due("ask(0, 2)", x.ask(0, 2), Check.BAD);
        trace(x, 13, 10);
        x.night(0);
        x.safe(5, 2, 0, 0);
        trace(x, 13, 10);
    }

    private static void traces() {
        WoodForTwo x = Check.with(ALL);
        trace(x);
        x.ask(0, 0);
        trace(x, 14, 11, 10, 24, 21, 20);
        x.ask(5, 0);
        trace(x, 10);
        c.due("trace(-1)", x.trace(-1), Check.NONE);
        c.due("trace(MIN)", x.trace(Integer.MIN_VALUE), Check.NONE);
        c.due("trace(16)", x.trace(16), Check.NONE);
        c.due("trace(17)", x.trace(17), Check.NONE);
        c.due("trace(MAX)", x.trace(Integer.MAX_VALUE), Check.NONE);
    }

    private static void ask(WoodForTwo x, int party, int what, long answer, int... bodies) {
        c.due("ask(" + party + ", " + what + ")", x.ask(party, what), answer);
        trace(x, bodies);
    }

    private static void trace(WoodForTwo x, int... bodies) {
        for (int i = 0; i < 16; i++) {
            c.due("trace(" + i + ")", x.trace(i), i < bodies.length ? bodies[i] : Check.NONE);
        }
    }
}
