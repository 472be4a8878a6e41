import java.util.Random;

/**
 * All promises: calls by chance, with arguments around the bounds, answered by the class and by the
 * second reading of the document (Model); every answer is looked at.
 */
public final class ModelTest {
    private static final Check c = new Check("ModelTest");
    private static final int RUNS = 300;
    // A text takes some 60 calls at most, so an object stays within its 512.
    private static final int CALLS = 450;
    private static final String[] WORDS = {"hut", "chance", "party", "head", "flat", "less", "keeps",
        "half", "none", "weighs", ";", "0", "000", "1", "9", "10", "99", "100", "500", "501", "0000",
        "999", "x", "-", "\u00e9", "\t", "huts", "hu"};

    private final Random random;
    private final WoodForTwo x = new WoodForTwo();
    private final Model y = new Model();
    private int calls;

    private ModelTest(long seed) {
        random = new Random(seed);
    }

    public static void main(String[] args) {
        for (int run = 0; run < RUNS; run++) {
            // A seed of its own for each run, so that each is the same every time.
            ModelTest test = new ModelTest(2611 + run);
            while (test.calls < CALLS) {
                test.one();
            }
        }
        c.end();
    }

    private void one() {
        switch (random.nextInt(10)) {
            case 0:
                rows();
                break;
            case 1:
                texts();
                break;
            case 2:
            case 3:
            case 4:
                nights();
                break;
            case 5:
            case 6:
                foretold();
                break;
            case 7:
                book();
                break;
            case 8:
                images();
                break;
            default:
                asked();
        }
    }

    private boolean due(String call, long got, long want) {
        calls++;
        c.due(call + " as call " + calls, got, want);
        return got == want;
    }

    /** Mostly within the bounds, else at them, one beyond them, or as wide as an int is. */
    private int near(int least, int most) {
        switch (random.nextInt(24)) {
            case 0: return least - 1;
            case 1: return most + 1;
            case 2: return least;
            case 3: return most;
            case 4: return random.nextBoolean() ? Integer.MIN_VALUE : Integer.MAX_VALUE;
            default: return least + random.nextInt(most - least + 1);
        }
    }

    private void row(int row, int lane, int n) {
        due("row(" + row + ", " + lane + ", " + n + ")", x.row(row, lane, n), y.row(row, lane, n));
    }

    private void set(int row, int i, int v) {
        due("set(" + row + ", " + i + ", " + v + ")", x.set(row, i, v), y.set(row, i, v));
    }

    private void rows() {
        switch (random.nextInt(5)) {
            case 0:
                row(near(0, 7), near(0, 2), near(0, 40));
                break;
            case 1:
                set(near(0, 7), near(0, 39), random.nextInt() >> random.nextInt(32));
                break;
            case 2:
            case 3:
                int a = near(0, 7);
                int b = random.nextBoolean() ? a : near(0, 7);
                int i = near(0, 9);
                int j = near(0, 9);
                int n = near(0, 9);
                due("copy(" + a + ", " + i + ", " + b + ", " + j + ", " + n + ")",
                    x.copy(a, i, b, j, n), y.copy(a, i, b, j, n));
                break;
            default:
                int row = near(0, 7);
                due("drop(" + row + ")", x.drop(row), y.drop(row));
        }
    }

    private void feed(long w, int n) {
        due("feed(" + w + ", " + n + ")", x.feed(w, n), y.feed(w, n));
    }

    private void pass() {
        due("pass()", x.pass(), y.pass());
        due("fault()", x.fault(), y.fault());
    }

    private void texts() {
        if (random.nextInt(6) == 0) {
            feed(random.nextLong(), near(1, 8));
            if (random.nextBoolean()) {
                pass();
            }
            return;
        }
        String text = text();
        for (int at = 0; at < text.length(); at += 8) {
            int n = Math.min(8, text.length() - at);
            long w = random.nextLong();
            for (int i = 0; i < n; i++) {
                w = w << 8 | text.charAt(at + i) & 255;
            }
            feed(w, n);
        }
        pass();
    }

    private String text() {
        StringBuilder text = new StringBuilder();
        add(text, "hut", in(0, 500), in(1, 9), WORDS[3 + random.nextInt(3)], in(0, 9));
        int size = random.nextInt(3);
        for (int i = few(6); i > 0; i--) {
            add(text, "chance", "" + size, in(1, 9));
            size += 1 + (random.nextInt(3) == 0 && size < 9 ? 1 : 0);
        }
        for (int i = few(6); i > 0; i--) {
            add(text, "party", in(1, 9), WORDS[6 + random.nextInt(4)], in(0, 99));
        }
        for (int i = few(20) == 20 ? 17 : 0; i > 0; i--) {
            add(text, "party", "1", "none", "0");
        }
        int change = random.nextInt(5);
        if (change == 0) {
            text.insert(random.nextInt(text.length() + 1), WORDS[random.nextInt(WORDS.length)]);
        } else if (change == 1) {
            text.setLength(random.nextInt(text.length() + 1));
        } else if (change == 2) {
            text.deleteCharAt(random.nextInt(text.length()));
        }
        return text.toString();
    }

    /** A number within its bounds, seldom one beyond. */
    private String in(int least, int most) {
        return "" + (random.nextInt(40) == 0 ? most + 1 : least + random.nextInt(most - least + 1));
    }

    private int few(int most) {
        return random.nextInt(8) == 0 ? most + random.nextInt(2) : random.nextInt(Math.min(4, most + 1));
    }

    private void add(StringBuilder text, String... words) {
        for (int i = 0; i < words.length; i++) {
            text.append(i == 0 ? "" : random.nextInt(5) == 0 ? "\n " : " ").append(words[i]);
        }
        text.append(';').append(random.nextInt(4) == 0 ? "\n" : "");
    }

    private void nights() {
        int most = (int) y.count(1);
        switch (random.nextInt(8)) {
            case 0:
                int s = near(0, 99);
                due("snow(" + s + ")", x.snow(s), y.snow(s));
                break;
            case 1:
                int law = near(0, 2);
                int m = near(1, 9);
                due("due(" + law + ", " + m + ")", x.due(law, m), y.due(law, m));
                break;
            case 2:
                nightsByARow();
                break;
            case 3:
            case 4:
                int party = near(0, most);
                due("night(" + party + ")", x.night(party), y.night(party));
                break;
            case 5:
            case 6:
                int of = near(0, most);
                int what = near(0, 5);
                due("party(" + of + ", " + what + ")", x.party(of, what), y.party(of, what));
                break;
            default:
                int which = near(0, 6);
                due("count(" + which + ")", x.count(which), y.count(which));
        }
    }

    private void nightsByARow() {
        int row = near(0, 7);
        if (random.nextBoolean()) {
            row(row, random.nextInt(3), 4);
            for (int i = 0; i < 4; i++) {
                set(row, i, near(0, Math.max(0, (int) y.count(1) - 1)));
            }
        }
        int i = near(0, 3);
        int n = random.nextBoolean() ? near(1, 4) : near(1, 40);
        due("nights(" + row + ", " + i + ", " + n + ")", x.nights(row, i, n), y.nights(row, i, n));
        due("status()", x.status(), y.status());
    }

    private void foretold() {
        int n = near(1, 8);
        int law = near(0, 2);
        switch (random.nextInt(4)) {
            case 0:
                int w = random.nextBoolean() ? near(0, 60) : near(0, 999);
                int what = near(0, 1);
                due("safe(" + w + ", " + n + ", " + law + ", " + what + ")",
                    x.safe(w, n, law, what), y.safe(w, n, law, what));
                break;
            case 1:
                int q = near(0, 1000);
                due("stock(" + n + ", " + law + ", " + q + ")", x.stock(n, law, q), y.stock(n, law, q));
                break;
            case 2:
                int cut = near(1, 99);
                due("send(" + n + ", " + cut + ")", x.send(n, cut), y.send(n, cut));
                break;
            default:
                int few = near(1, 4);
                int a = near(0, random.nextBoolean() ? 300 : 40);
                int b = near(0, random.nextBoolean() ? 300 : 40);
                due("carry(" + a + ", " + b + ", " + few + ")", x.carry(a, b, few), y.carry(a, b, few));
        }
    }

    private void book() {
        int row = near(0, 7);
        int m = random.nextBoolean() ? near(1, 2) : near(1, 20);
        int what = near(0, 1);
        if (random.nextBoolean()) {
            row(row, 1 + random.nextInt(2), 6);
            for (int i = 0; i < 6; i++) {
                set(row, i, random.nextBoolean() ? near(1, 9) : near(0, 999));
            }
        }
        if (random.nextBoolean()) {
            due("broke(" + row + ", " + m + ", " + what + ")", x.broke(row, m, what), y.broke(row, m, what));
        } else {
            due("lies(" + row + ", " + m + ", " + what + ")", x.lies(row, m, what), y.lies(row, m, what));
        }
        due("status()", x.status(), y.status());
    }

    private void images() {
        int k = near(0, 1);
        if (random.nextBoolean()) {
            due("image(" + k + ")", x.image(k), y.image(k));
        } else {
            due("restore(" + k + ")", x.restore(k), y.restore(k));
            due("count(4)", x.count(4), y.count(4));
        }
    }

    private void asked() {
        int party = near(0, (int) y.count(1));
        switch (random.nextInt(5)) {
            case 0:
                due("kind(" + party + ")", x.kind(party), y.kind(party));
                break;
            case 1:
                int kind = near(0, 5);
                due("as(" + party + ", " + kind + ")", x.as(party, kind), y.as(party, kind));
                break;
            case 2:
            case 3:
                int what = near(0, 1);
                due("ask(" + party + ", " + what + ")", x.ask(party, what), y.ask(party, what));
                break;
            default:
                int i = near(0, 15);
                due("trace(" + i + ")", x.trace(i), y.trace(i));
                int few = random.nextInt(6);
                due("trace(" + few + ")", x.trace(few), y.trace(few));
        }
        due("status()", x.status(), y.status());
    }
}
