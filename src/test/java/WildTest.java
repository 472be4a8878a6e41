import java.util.List;
import java.util.Random;

/**
 * Any calls with any arguments: none throws, what is refused or found changes nothing but status(),
 * and status() is what the latest call with a row, or as(), left.
 */
public final class WildTest {
    private static final Check c = new Check("WildTest");
    private static final int[] ENDS = {Integer.MIN_VALUE, Integer.MAX_VALUE, -1, 0, 1, 2, 3, 5, 6, 7,
        8, 9, 10, 13, 16, 20, 39, 40, 41, 99, 100, 300, 500, 999, 1000, 1001};
    private static final String[] WORDS = {"hut", "chance", "party", "head", "flat", "less", "keeps",
        "half", "none", "weighs", ";", "0", "1", "9", "10", "99", "500", "x", "0000", "-", "\n"};
    private static final String[] CALLS_TOLD = {"row", "set", "copy", "drop", "feed", "pass", "fault",
        "night", "nights", "snow", "due", "party", "safe", "stock", "send", "broke", "lies", "carry",
        "image", "restore", "kind", "as", "ask", "trace", "count", "status"};

    private static final List<String> WITH_STATUS =
        List.of("row", "set", "copy", "drop", "nights", "broke", "lies", "as");
    private static final int RUNS = 4000;
    private static final int CALLS = 30;
    private static final int TEXTS = 4;

    private final Random random;
    private final WoodForTwo x = new WoodForTwo();

    private WildTest(long seed) {
        random = new Random(seed);
    }

    public static void main(String[] args) {
        // Seeds of their own, so that each run is the same. An object stays below 512 calls: at most
        // four texts of some 40, 30 others, and the last one, ahead of and behind which all is seen.
        for (int run = 0; run < RUNS; run++) {
            WildTest test = new WildTest(27 + run);
            for (int text = test.random.nextInt(TEXTS); text >= 0; text--) {
                for (int call = test.random.nextInt(CALLS / TEXTS); call > 0; call--) {
                    test.some();
                }
                test.feedText();
            }
            test.last();
        }
        c.end();
    }

    private void some() {
        int which = random.nextInt(CALLS_TOLD.length);
        int[] a = arguments();
        try {
            answer(x, which, a);
        } catch (RuntimeException e) {
            c.due(told(which, a) + " throws " + e, 1, 0);
        }
    }

    private void last() {
        int which = random.nextInt(CALLS_TOLD.length);
        int[] a = arguments();
        String call = told(which, a);
        int status = x.status();
        String before = Check.seenButStatus(x);
        try {
            long answer = answer(x, which, a);
            boolean refused = answer >= Check.FULL && answer <= Check.BAD;
            boolean found = answer >= Check.STORE && answer <= Check.NULL;
            boolean counts = WITH_STATUS.contains(CALLS_TOLD[which]);
            long due = !counts || refused ? status : found ? Check.NOT - 10 - answer : 0;
            c.due("status() after " + call, x.status(), due);
            if (refused || found) {
                c.same(call, before, Check.seenButStatus(x));
            }
        } catch (RuntimeException e) {
            c.due(call + " throws " + e, 1, 0);
        }
    }

    private int[] arguments() {
        int[] a = new int[5];
        for (int i = 0; i < a.length; i++) {
            a[i] = random.nextInt(4) == 0 ? ENDS[random.nextInt(ENDS.length)] : random.nextInt(4);
        }
        return a;
    }

    private static String told(int which, int[] a) {
        return CALLS_TOLD[which] + " " + a[0] + " " + a[1] + " " + a[2] + " " + a[3] + " " + a[4];
    }

    private static long answer(WoodForTwo x, int which, int[] a) {
        switch (which) {
            case 0: return x.row(a[0], a[1], a[2]);
            case 1: return x.set(a[0], a[1], a[2]);
            case 2: return x.copy(a[0], a[1], a[2], a[3], a[4]);
            case 3: return x.drop(a[0]);
            case 4: return x.feed(a[0] * 77777777777L + a[1], a[2]);
            case 5: return x.pass();
            case 6: return x.fault();
            case 7: return x.night(a[0]);
            case 8: return x.nights(a[0], a[1], a[2]);
            case 9: return x.snow(a[0]);
            case 10: return x.due(a[0], a[1]);
            case 11: return x.party(a[0], a[1]);
            case 12: return x.safe(a[0], a[1], a[2], a[3]);
            case 13: return x.stock(a[0], a[1], a[2]);
            case 14: return x.send(a[0], a[1]);
            case 15: return x.broke(a[0], a[1], a[2]);
            case 16: return x.lies(a[0], a[1], a[2]);
            case 17: return x.carry(a[0], a[1], a[2]);
            case 18: return x.image(a[0]);
            case 19: return x.restore(a[0]);
            case 20: return x.kind(a[0]);
            case 21: return x.as(a[0], a[1]);
            case 22: return x.ask(a[0], a[1]);
            case 23: return x.trace(a[0]);
            case 24: return x.count(a[0]);
            default: return x.status();
        }
    }

    private void feedText() {
        StringBuilder text = new StringBuilder("hut " + random.nextInt(501) + " "
            + (1 + random.nextInt(9)) + " " + WORDS[3 + random.nextInt(3)] + " " + random.nextInt(10) + ";");
        int size = random.nextInt(4);
        for (int i = random.nextInt(8); i > 0; i--) {
            text.append("chance ").append(size++).append(' ').append(1 + random.nextInt(9)).append(';');
        }
        for (int i = random.nextInt(6); i > 0; i--) {
            text.append("party ").append(1 + random.nextInt(9)).append(' ')
                .append(WORDS[6 + random.nextInt(4)]).append(' ').append(random.nextInt(100)).append(';');
        }
        if (random.nextInt(3) == 0) {
            text.insert(random.nextInt(text.length()), WORDS[random.nextInt(WORDS.length)]);
        }
        try {
            Check.read(x, text.toString());
        } catch (RuntimeException e) {
            c.due("pass of " + text + " throws " + e, 1, 0);
        }
    }
}
