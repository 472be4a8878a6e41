/**
 * Every argument of every call: the least and the most that are told, one below, one above, and the
 * widest ints; what is refused there changes nothing, and status() only where it is a finding. Also
 * which refusal goes ahead, two by two.
 */
public final class BoundsTest {
    private static final Check c = new Check("BoundsTest");

    /** A call with one of its arguments left open. */
    private interface Call {
        long of(WoodForTwo x, int v);
    }

    /** A call that two things are wrong with. */
    private interface Wrong {
        long of(WoodForTwo x);
    }

    public static void main(String[] args) {
        rows();
        nights();
        foretold();
        books();
        imagesAndAsks();
        items();
        texts();
        without();
        whatGoesAhead();
        badAheadOfFull();
        c.end();
    }

    /** Three parties (the first is LONE), two chances, both images, eight rows of 40, two of them of ones. */
    private static WoodForTwo made() {
        WoodForTwo x = Check.with("hut 60 2 less 1;chance 0 3;chance 2 1;"
            + "party 1 keeps 5;party 2 half 7;party 3 none 9;");
        x.image(0);
        x.night(1);
        x.image(1);
        x.ask(2, 1);
        for (int row = 0; row < 8; row++) {
            x.row(row, 2, 40);
        }
        x.set(0, 0, 1);
        for (int n = 1; n < 40; n *= 2) {
            x.copy(0, 0, 0, n, Math.min(n, 40 - n));
        }
        x.copy(0, 0, 7, 0, 40);
        return x;
    }

    private static void bad(String call, int least, int most, Call of) {
        bounds(call, least, most, Check.BAD, Check.BAD, of);
    }

    private static void place(String call, int least, int most, Call of) {
        bounds(call, least, most, Check.PLACE, Check.PLACE, of);
    }

    private static void bounds(String call, int least, int most, long below, long above, Call of) {
        WoodForTwo x = made();
        // A finding ahead, that a refusal has to leave as it is.
        x.as(0, 3);
        String before = Check.seenButStatus(x);
        refused(x, call, Integer.MIN_VALUE, below, of);
        refused(x, call, least - 1, below, of);
        refused(x, call, most + 1, above, of);
        refused(x, call, Integer.MAX_VALUE, above, of);
        c.same(call + " beyond its bounds", before, Check.seenButStatus(x));
        rowsAsMade(x, call);
        c.due(call + " at " + least + " is not refused", of.of(made(), least) > Check.NOT ? 1 : 0, 1);
        c.due(call + " at " + most + " is not refused", of.of(made(), most) > Check.NOT ? 1 : 0, 1);
    }

    private static void refused(WoodForTwo x, String call, int v, long due, Call of) {
        int status = x.status();
        c.dueStatus(x, call + " at " + v, of.of(x, v), due,
            due == Check.BAD ? status : (int) (Check.NOT - 10 - due));
    }

    private static void rowsAsMade(WoodForTwo x, String call) {
        for (int row = 0; row < 8; row++) {
            int one = row == 0 || row == 7 ? 1 : 0;
            c.due(call + ": items of row " + row, x.broke(row, 13, 0), one == 1 ? (1 << 13) - 1 : Check.BAD);
            c.due(call + ": pairs of row " + row, x.lies(row, 20, 0), 0);
            c.due(call + ": lane of row " + row, x.set(row, 0, 70000), 70000);
            c.due(call + ": length of row " + row, x.drop(row), 40);
        }
    }

    // ---- rows.

    private static void rows() {
        bad("row(v, 0, 1)", 0, 7, (x, v) -> x.row(v, 0, 1));
        bad("row(0, v, 1)", 0, 2, (x, v) -> x.row(0, v, 1));
        bounds("row(0, 0, v)", 0, 40, Check.SIZE, Check.BAD, (x, v) -> x.row(0, 0, v));
        bad("set(v, 0, 1)", 0, 7, (x, v) -> x.set(v, 0, 1));
        place("set(0, v, 1)", 0, 39, (x, v) -> x.set(0, v, 1));
        bad("copy(v, 0, 1, 0, 1)", 0, 7, (x, v) -> x.copy(v, 0, 1, 0, 1));
        bad("copy(1, 0, v, 0, 1)", 0, 7, (x, v) -> x.copy(1, 0, v, 0, 1));
        place("copy(0, v, 1, 0, 1)", 0, 39, (x, v) -> x.copy(0, v, 1, 0, 1));
        place("copy(0, v, 1, 0, 0)", 0, 40, (x, v) -> x.copy(0, v, 1, 0, 0));
        place("copy(0, v, 1, 0, 7)", 0, 33, (x, v) -> x.copy(0, v, 1, 0, 7));
        place("copy(0, 0, 1, v, 1)", 0, 39, (x, v) -> x.copy(0, 0, 1, v, 1));
        place("copy(0, 0, 1, v, 0)", 0, 40, (x, v) -> x.copy(0, 0, 1, v, 0));
        place("copy(0, 0, 1, v, 7)", 0, 33, (x, v) -> x.copy(0, 0, 1, v, 7));
        place("copy(0, 0, 1, 0, v)", 0, 40, (x, v) -> x.copy(0, 0, 1, 0, v));
        place("copy(0, 9, 1, 0, v)", 0, 31, (x, v) -> x.copy(0, 9, 1, 0, v));
        place("copy(0, 0, 1, 9, v)", 0, 31, (x, v) -> x.copy(0, 0, 1, 9, v));
        bad("drop(v)", 0, 7, (x, v) -> x.drop(v));
        bad("feed(w, v)", 1, 8, (x, v) -> x.feed(0x2020202020202020L, v));
        bad("feed(MIN, v)", 1, 8, (x, v) -> x.feed(Long.MIN_VALUE, v));
        bad("feed(MAX, v)", 1, 8, (x, v) -> x.feed(Long.MAX_VALUE, v));
    }

    // ---- passes, nights.

    private static void nights() {
        bad("night(v)", 0, 2, (x, v) -> x.night(v));
        bad("nights(v, 0, 1)", 0, 7, (x, v) -> x.nights(v, 0, 1));
        place("nights(0, v, 1)", 0, 39, (x, v) -> x.nights(0, v, 1));
        place("nights(0, v, 5)", 0, 35, (x, v) -> x.nights(0, v, 5));
        place("nights(0, v, 40)", 0, 0, (x, v) -> x.nights(0, v, 40));
        bad("nights(0, 0, v)", 1, 40, (x, v) -> x.nights(0, 0, v));
        bad("snow(v)", 0, 99, (x, v) -> x.snow(v));
        bad("due(v, 1)", 0, 2, (x, v) -> x.due(v, 1));
        bad("due(0, v)", 1, 9, (x, v) -> x.due(0, v));
        bad("due(1, v)", 1, 9, (x, v) -> x.due(1, v));
        bad("due(2, v)", 1, 9, (x, v) -> x.due(2, v));
        bad("party(v, 0)", 0, 2, (x, v) -> x.party(v, 0));
        bad("party(2, v)", 0, 5, (x, v) -> x.party(2, v));
        WoodForTwo x = made();
        c.due("nights beyond the end by one", x.nights(0, 2, 39), Check.PLACE);
        c.due("nights up to the end", x.nights(0, 1, 39) >= 0 ? 1 : 0, 1);
    }

    // ---- foretold.

    private static void foretold() {
        for (int what = 0; what <= 1; what++) {
            int same = what;
            bad("safe(v, 1, 0, " + what + ")", 0, 999, (x, v) -> x.safe(v, 1, 0, same));
            bad("safe(1, v, 0, " + what + ")", 1, 8, (x, v) -> x.safe(1, v, 0, same));
            bad("safe(1, 1, v, " + what + ")", 0, 2, (x, v) -> x.safe(1, 1, v, same));
        }
        bad("safe(1, 1, 0, v)", 0, 1, (x, v) -> x.safe(1, 1, 0, v));
        bad("stock(v, 0, 500)", 1, 8, (x, v) -> x.stock(v, 0, 500));
        bad("stock(1, v, 500)", 0, 2, (x, v) -> x.stock(1, v, 500));
        bad("stock(1, 0, v)", 0, 1000, (x, v) -> x.stock(1, 0, v));
        bad("send(v, 1)", 1, 8, (x, v) -> x.send(v, 1));
        bad("send(1, v)", 1, 99, (x, v) -> x.send(1, v));
        bad("carry(v, 0, 1)", 0, 300, (x, v) -> x.carry(v, 0, 1));
        bad("carry(0, v, 1)", 0, 300, (x, v) -> x.carry(0, v, 1));
        bad("carry(0, 0, v)", 1, 4, (x, v) -> x.carry(0, 0, v));
    }

    private static void books() {
        for (int what = 0; what <= 1; what++) {
            int same = what;
            bad("broke(v, 1, " + what + ")", 0, 7, (x, v) -> x.broke(v, 1, same));
            bad("broke(0, v, " + what + ")", 1, 13, (x, v) -> x.broke(0, v, same));
            bad("lies(v, 1, " + what + ")", 0, 7, (x, v) -> x.lies(v, 1, same));
            bad("lies(0, v, " + what + ")", 1, 20, (x, v) -> x.lies(0, v, same));
        }
        bad("broke(7, 1, v)", 0, 1, (x, v) -> x.broke(7, 1, v));
        bad("lies(7, 1, v)", 0, 1, (x, v) -> x.lies(7, 1, v));
        WoodForTwo x = made();
        x.row(3, 2, 38);
        c.due("13 nights of 38 items", x.broke(3, 13, 0), Check.PLACE);
        x.row(3, 2, 39);
        c.due("13 nights of 39 items are there", x.broke(3, 13, 0), Check.BAD);
        c.due("20 writers of 39 items", x.lies(3, 20, 0), Check.PLACE);
        c.due("19 writers of 39 items", x.lies(3, 19, 0), 0);
        x.row(3, 2, 2);
        c.due("a night of 2 items", x.broke(3, 1, 0), Check.PLACE);
        c.due("a writer of 2 items", x.lies(3, 1, 0), 0);
        x.row(3, 2, 1);
        c.due("a writer of 1 item", x.lies(3, 1, 0), Check.PLACE);
        x.row(3, 2, 0);
        c.due("a night of none", x.broke(3, 1, 0), Check.PLACE);
        c.due("a writer of none", x.lies(3, 1, 0), Check.PLACE);
        c.due("nights of none", x.nights(3, 0, 1), Check.PLACE);
        c.due("set in none", x.set(3, 0, 1), Check.PLACE);
        c.due("copy of none in none", x.copy(3, 0, 3, 0, 0), 0);
        c.due("copy of none beyond none", x.copy(3, 1, 3, 0, 0), Check.PLACE);
        c.due("copy of one from none", x.copy(3, 0, 0, 0, 1), Check.PLACE);
    }

    // ---- asked.

    private static void imagesAndAsks() {
        bad("image(v)", 0, 1, (x, v) -> x.image(v));
        bad("restore(v)", 0, 1, (x, v) -> x.restore(v));
        bad("kind(v)", 0, 2, (x, v) -> x.kind(v));
        bad("as(v, 0)", 0, 2, (x, v) -> x.as(v, 0));
        bad("as(0, v)", 0, 5, (x, v) -> x.as(0, v));
        for (int what = 0; what <= 1; what++) {
            int same = what;
            bad("ask(v, " + what + ")", 0, 2, (x, v) -> x.ask(v, same));
        }
        bad("ask(0, v)", 0, 1, (x, v) -> x.ask(0, v));
        bad("count(v)", 0, 6, (x, v) -> x.count(v));
        WoodForTwo x = made();
        // Number 2 was asked for its MARK: 23, 20, 13, 10.
        int[] beyond = {Integer.MIN_VALUE, -1, 4, 5, 15, 16, Integer.MAX_VALUE};
        for (int i : beyond) {
            c.due("trace(" + i + ")", x.trace(i), Check.NONE);
        }
        c.due("trace(0)", x.trace(0), 23);
        c.due("trace(3)", x.trace(3), 10);
    }

    // ---- items and texts.

    private static void items() {
        for (int i = 0; i < 39; i++) {
            item("broke", i, i % 3 == 0 ? 1 : 0, i % 3 == 0 ? 9 : 999);
        }
        for (int i = 0; i < 40; i++) {
            item("lies", i, 0, 999);
            item("nights", i, 0, 2);
        }
    }

    private static void item(String call, int i, int least, int most) {
        WoodForTwo x = made();
        int[] beyond = {Integer.MIN_VALUE, least - 1, most + 1, Integer.MAX_VALUE};
        for (int v : beyond) {
            x.set(0, i, v);
            x.as(0, 3);
            c.dueStatus(x, call + " by item " + i + " of " + v, byRow(x, call), Check.BAD, 3);
        }
        c.due(call + ": no night went", x.count(3), 1);
        int[] within = {least, most};
        for (int v : within) {
            x.set(0, i, v);
            x.as(0, 3);
            boolean stands = byRow(x, call) >= 0;
            c.dueStatus(x, call + " by item " + i + " of " + v + " stands", stands ? 1 : 0, 1, 0);
        }
    }

    private static long byRow(WoodForTwo x, String call) {
        return call.equals("nights") ? x.nights(0, 0, 40)
            : call.equals("broke") ? x.broke(0, 13, 1) : x.lies(0, 20, 0);
    }

    private static void texts() {
        String[] told = {"hut ", "5", " ", "4", " head ", "3", ";chance ", "2", " ", "1",
            ";party ", "7", " none ", "8", ";"};
        int[][] numbers = {{1, 0, 500}, {3, 1, 9}, {5, 0, 9}, {7, 0, 9}, {9, 1, 9}, {11, 1, 9}, {13, 0, 99}};
        for (int[] number : numbers) {
            for (int v = 0; v <= 999; v++) {
                boolean stands = v >= number[1] && v <= number[2];
                number(told, number[0], "" + v, stands ? 0 : 2);
            }
            number(told, number[0], "00" + number[1], 0);
            number(told, number[0], "000", number[1] == 0 ? 0 : 2);
            number(told, number[0], "000" + number[1], 1);
            number(told, number[0], "0000", 1);
            number(told, number[0], "1000", 1);
            number(told, number[0], "2147483648", 1);
            number(told, number[0], "4294967297", 1);
            number(told, number[0], "18446744073709551617", 1);
            number(told, number[0], "-1", 1);
            number(told, number[0], "one", 1);
            number(told, number[0], ";", 1);
        }
    }

    private static void number(String[] told, int at, String in, int fault) {
        StringBuilder text = new StringBuilder();
        int place = 0;
        for (int i = 0; i < told.length; i++) {
            place = i == at ? text.length() : place;
            text.append(i == at ? in : told[i]);
        }
        WoodForTwo x = new WoodForTwo();
        c.due("pass of " + text, Check.read(x, text.toString()), fault == 0 ? 1 : Check.NOT - 100 - place);
        c.due("fault() of " + text, x.fault(), fault);
    }

    // ---- what there is not, and what goes ahead.

    /** Calls on a new object: no PASS, no PARTY, no ROW, no IMAGE. */
    private static void without() {
        WoodForTwo x = new WoodForTwo();
        Check.fill(x, 0, 1, 1, 1);
        x.set(0, 9, 9);
        String before = Check.seen(x);
        c.due("nights", x.nights(0, 0, 1), Check.STATE);
        c.due("snow", x.snow(1), Check.STATE);
        c.due("due", x.due(0, 1), Check.STATE);
        c.due("safe", x.safe(1, 1, 0, 0), Check.STATE);
        c.due("stock", x.stock(1, 0, 1), Check.STATE);
        c.due("send", x.send(1, 1), Check.STATE);
        c.due("broke", x.broke(0, 1, 0), Check.STATE);
        c.due("carry", x.carry(1, 1, 1), Check.STATE);
        c.due("image", x.image(1), Check.STATE);
        c.due("restore", x.restore(1), Check.STATE);
        c.due("night", x.night(0), Check.BAD);
        c.due("party", x.party(0, 0), Check.BAD);
        c.due("kind", x.kind(0), Check.BAD);
        c.due("as", x.as(0, 0), Check.BAD);
        c.due("ask", x.ask(0, 0), Check.BAD);
        c.same("what is refused without a pass", before, Check.seen(x));
        c.due("lies want no pass", x.lies(0, 1, 0), 0);
    }

    private static void whatGoesAhead() {
        ahead("STATE, BAD: nights", Check.STATE, false, x -> x.nights(8, 0, 1), x -> x.nights(0, 0, 41));
        ahead("STATE, NULL: nights", Check.STATE, false, x -> x.nights(5, 0, 1));
        ahead("STATE, PLACE: nights", Check.STATE, false, x -> x.nights(0, 40, 1));
        ahead("STATE, an item: nights", Check.STATE, false, x -> x.nights(1, 0, 1));
        ahead("STATE, BAD: snow", Check.STATE, false, x -> x.snow(-1), x -> x.snow(100));
        ahead("STATE, BAD: due", Check.STATE, false, x -> x.due(3, 1), x -> x.due(0, 10));
        ahead("STATE, BAD: safe", Check.STATE, false, x -> x.safe(1000, 1, 0, 0), x -> x.safe(1, 9, 0, 0),
            x -> x.safe(1, 1, 3, 0), x -> x.safe(1, 1, 0, 2));
        ahead("STATE, BAD: stock", Check.STATE, false, x -> x.stock(9, 0, 1), x -> x.stock(1, 3, 1),
            x -> x.stock(1, 0, 1001));
        ahead("STATE, BAD: send", Check.STATE, false, x -> x.send(9, 1), x -> x.send(1, 100));
        ahead("STATE, BAD: broke", Check.STATE, false, x -> x.broke(8, 1, 0), x -> x.broke(0, 14, 0),
            x -> x.broke(0, 1, 2));
        ahead("STATE, NULL: broke", Check.STATE, false, x -> x.broke(5, 1, 0));
        ahead("STATE, PLACE: broke", Check.STATE, false, x -> x.broke(2, 13, 0));
        ahead("STATE, an item: broke", Check.STATE, false, x -> x.broke(1, 1, 0));
        ahead("STATE, BAD: carry", Check.STATE, false, x -> x.carry(301, 0, 1), x -> x.carry(0, 301, 1),
            x -> x.carry(0, 0, 5));
        ahead("BAD, STATE: image, restore", Check.BAD, false, x -> x.image(-1), x -> x.image(2),
            x -> x.restore(-1), x -> x.restore(2));
        ahead("BAD, SIZE: row", Check.BAD, true, x -> x.row(8, 0, -1), x -> x.row(-1, 0, -1),
            x -> x.row(0, 3, -1), x -> x.row(0, -1, -1));
        ahead("BAD, NULL: copy", Check.BAD, true, x -> x.copy(8, 0, 5, 0, 1), x -> x.copy(5, 0, 8, 0, 1));
        ahead("BAD, STORE or PLACE: copy", Check.BAD, true, x -> x.copy(8, 0, 3, 99, 1), x -> x.copy(3, 99, 8, 0, 1));
        ahead("NULL, PLACE: set", Check.NULL, true, x -> x.set(5, 40, 1), x -> x.set(5, -1, 1));
        ahead("NULL, PLACE: copy", Check.NULL, true, x -> x.copy(5, -1, 0, 0, 1), x -> x.copy(0, 40, 5, 0, 1),
            x -> x.copy(3, -1, 5, 0, 1));
        ahead("STORE, PLACE: copy", Check.STORE, true, x -> x.copy(0, -1, 3, 0, 1), x -> x.copy(0, 0, 3, 99, 1),
            x -> x.copy(3, 0, 0, 0, -1));
        ahead("BAD, NULL: nights", Check.BAD, true, x -> x.nights(5, 0, 0), x -> x.nights(5, 0, 41));
        ahead("BAD, PLACE: nights", Check.BAD, true, x -> x.nights(0, 40, 0), x -> x.nights(0, -1, 41));
        ahead("NULL, PLACE: nights", Check.NULL, true, x -> x.nights(5, -1, 1));
        ahead("PLACE, an item: nights", Check.PLACE, true, x -> x.nights(1, 0, 40), x -> x.nights(1, -1, 1));
        ahead("BAD, NULL: broke, lies", Check.BAD, true, x -> x.broke(5, 0, 0), x -> x.broke(5, 14, 0),
            x -> x.broke(5, 1, 2), x -> x.lies(5, 0, 0), x -> x.lies(5, 21, 0), x -> x.lies(5, 1, -1));
        ahead("BAD, PLACE: broke, lies", Check.BAD, true, x -> x.broke(2, 14, 0), x -> x.broke(2, 1, 2),
            x -> x.lies(2, 21, 0), x -> x.lies(2, 20, 2));
        ahead("PLACE, an item: broke, lies", Check.PLACE, true, x -> x.broke(1, 13, 0), x -> x.lies(1, 20, 0));
        ahead("BAD, KIND: as", Check.BAD, true, x -> x.as(9, 3), x -> x.as(0, 6), x -> x.as(0, -1));
    }

    private static void ahead(String which, long due, boolean pass, Wrong... wrongs) {
        WoodForTwo x = pass ? Check.with("hut 9 1 head 1;party 1 keeps 1;") : new WoodForTwo();
        x.row(0, 2, 40);
        Check.fill(x, 1, -1, -1, -1);
        x.row(2, 2, 1);
        x.row(3, 1, 40);
        for (int i = 0; i < wrongs.length; i++) {
            c.due(which + ", " + i, wrongs[i].of(x), due);
        }
    }

    private static void badAheadOfFull() {
        WoodForTwo x = new WoodForTwo();
        for (int k = 0; k < 50; k++) {
            x.feed(0, 8);
        }
        c.due("feed of none on a full tape", x.feed(0, 0), Check.BAD);
        c.due("feed of 9 on a full tape", x.feed(0, 9), Check.BAD);
        c.due("feed of 1 on a full tape", x.feed(0, 1), Check.FULL);
        c.due("feed of 8 on a full tape", x.feed(0, 8), Check.FULL);
        c.due("count(6)", x.count(6), 400);
    }
}
