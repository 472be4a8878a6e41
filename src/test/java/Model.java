import java.util.ArrayList;
import java.util.HashSet;
import java.util.List;
import java.util.Set;
import java.util.regex.Matcher;
import java.util.regex.Pattern;

/**
 * A second reading of the document, as plain as can be: it keeps no rows to use again, splits a text
 * by a pattern, and foretells by going forward through all woods up to 999.
 */
final class Model {
    private static final int NO = -1;

    /** One word, number or sign of a text, and where it begins; the end is an empty one. */
    private record Token(int at, String text) { }

    private record Fault(int at, int number) { }

    private static final class Guest {
        int heads;
        String way;
        int toil;
        int slept;
        int froze;
        int left;
        int lacked;

        Guest copy() {
            Guest g = new Guest();
            g.heads = heads;
            g.way = way;
            g.toil = toil;
            g.slept = slept;
            g.froze = froze;
            g.left = left;
            g.lacked = lacked;
            return g;
        }

        int kind() {
            switch (way) {
                case "half": return 2;
                case "none": return 3;
                case "weighs": return 4;
                default: return heads == 1 ? 5 : 1;
            }
        }
    }

    private static final class Hut {
        int wood;
        int burn;
        int law;
        int n;
        int nights;
        int froze;
        final List<int[]> chances = new ArrayList<>();
        final List<Guest> guests = new ArrayList<>();

        Hut copy() {
            Hut h = new Hut();
            h.wood = wood;
            h.burn = burn;
            h.law = law;
            h.n = n;
            h.nights = nights;
            h.froze = froze;
            h.chances.addAll(chances);
            for (Guest g : guests) {
                h.guests.add(g.copy());
            }
            return h;
        }

        int due(int byLaw, int m) {
            if (byLaw == 0) {
                return n * m * burn;
            }
            return byLaw == 1 ? n * burn : n * burn + (m - 1) * burn / 2;
        }
    }

    private final int[][] rows = new int[8][];
    private final int[] lanes = new int[8];
    private final StringBuilder tape = new StringBuilder();
    private final Hut[] images = new Hut[2];
    private final List<Integer> trace = new ArrayList<>();
    private Hut hut;
    private int fault;
    private int status;

    // ---- rows.

    private long found(long finding) {
        status = (int) (Check.NOT - 10 - finding);
        return finding;
    }

    private long fine(long answer) {
        status = 0;
        return answer;
    }

    private static boolean within(int v, int least, int most) {
        return v >= least && v <= most;
    }

    long row(int row, int lane, int n) {
        if (!within(row, 0, 7) || !within(lane, 0, 2) || n > 40) {
            return Check.BAD;
        }
        if (n < 0) {
            return found(Check.SIZE);
        }
        rows[row] = new int[n];
        lanes[row] = lane;
        return fine(n);
    }

    long set(int row, int i, int v) {
        if (!within(row, 0, 7)) {
            return Check.BAD;
        }
        if (rows[row] == null) {
            return found(Check.NULL);
        }
        if (!within(i, 0, rows[row].length - 1)) {
            return found(Check.PLACE);
        }
        int bits = 8 << lanes[row];
        rows[row][i] = v << (32 - bits) >> (32 - bits);
        return fine(rows[row][i]);
    }

    long copy(int a, int i, int b, int j, int n) {
        if (!within(a, 0, 7) || !within(b, 0, 7)) {
            return Check.BAD;
        }
        if (rows[a] == null || rows[b] == null) {
            return found(Check.NULL);
        }
        if (lanes[a] != lanes[b]) {
            return found(Check.STORE);
        }
        if (i < 0 || j < 0 || n < 0 || (long) i + n > rows[a].length || (long) j + n > rows[b].length) {
            return found(Check.PLACE);
        }
        int[] before = rows[a].clone();
        for (int k = 0; k < n; k++) {
            rows[b][j + k] = before[i + k];
        }
        return fine(n);
    }

    long drop(int row) {
        if (!within(row, 0, 7)) {
            return Check.BAD;
        }
        if (rows[row] == null) {
            return found(Check.NULL);
        }
        int had = rows[row].length;
        rows[row] = null;
        return fine(had);
    }

    // ---- passes, nights.

    long feed(long w, int n) {
        if (!within(n, 1, 8)) {
            return Check.BAD;
        }
        if (tape.length() + n > 400) {
            return Check.FULL;
        }
        for (int k = 1; k <= n; k++) {
            tape.append((char) (w >>> 8 * (n - k) & 255));
        }
        return tape.length();
    }

    long pass() {
        List<Token> tokens = new ArrayList<>();
        Matcher m = Pattern.compile("[a-z]+|[0-9]+|[^ \n]").matcher(tape);
        while (m.find()) {
            tokens.add(new Token(m.start(), m.group()));
        }
        tokens.add(new Token(tape.length(), ""));
        tape.setLength(0);
        Hut read = new Hut();
        Fault wrong = read(tokens, read);
        if (wrong != null) {
            fault = wrong.number;
            return Check.NOT - 100 - wrong.at;
        }
        hut = read;
        return hut.guests.size();
    }

    /** The tokens against what may stand at each place; null where all is as told. */
    private static Fault read(List<Token> tokens, Hut read) {
        String of = "";
        int slot = 0;
        int[] got = new int[5];
        for (Token t : tokens) {
            if (slot == 0) {
                int wrong = beginning(t.text, of, read);
                if (wrong != 0) {
                    return new Fault(t.at, wrong);
                }
                of = t.text;
                slot = 1;
                continue;
            }
            char due = (of.equals("hut") ? "NNLN;" : of.equals("chance") ? "NN;" : "NWN;").charAt(slot - 1);
            int wrong = due == ';' ? (t.text.equals(";") ? 0 : 1)
                : due == 'N' ? number(t.text, of, slot, read) : word(t.text, due) == NO ? 1 : 0;
            if (wrong != 0) {
                return new Fault(t.at, wrong);
            }
            if (due == ';') {
                keep(of, got, read);
                slot = 0;
            } else {
                got[slot] = due == 'N' ? Integer.parseInt(t.text) : word(t.text, due);
                slot++;
            }
        }
        return null;
    }

    /** What is wrong with a word that begins a hut, a chance or a party, or with the end, behind one of these. */
    private static int beginning(String text, String behind, Hut read) {
        boolean may;
        switch (text) {
            case "hut":
                may = behind.isEmpty();
                break;
            case "chance":
                may = behind.equals("hut") || behind.equals("chance");
                break;
            case "party":
            case "":
                may = !behind.isEmpty();
                break;
            default:
                may = false;
        }
        boolean full = text.equals("chance") && read.chances.size() == 6
            || text.equals("party") && read.guests.size() == 16;
        return !may ? 1 : full ? 3 : 0;
    }

    private static int word(String text, char sort) {
        return sort == 'L' ? List.of("head", "flat", "less").indexOf(text)
            : List.of("keeps", "half", "none", "weighs").indexOf(text);
    }

    private static int number(String text, String of, int slot, Hut read) {
        if (!text.matches("[0-9]{1,3}")) {
            return 1;
        }
        int v = Integer.parseInt(text);
        boolean is;
        if (of.equals("hut")) {
            is = slot == 1 ? v <= 500 : slot == 2 ? within(v, 1, 9) : v <= 9;
        } else if (of.equals("chance")) {
            boolean twice = false;
            for (int[] chance : read.chances) {
                twice |= slot == 1 && chance[0] == v;
            }
            is = slot == 1 ? v <= 9 && !twice : within(v, 1, 9);
        } else {
            is = slot == 1 ? within(v, 1, 9) : v <= 99;
        }
        return is ? 0 : 2;
    }

    private static void keep(String sort, int[] got, Hut read) {
        if (sort.equals("hut")) {
            read.wood = got[1];
            read.burn = got[2];
            read.law = got[3];
            read.n = got[4];
        } else if (sort.equals("chance")) {
            read.chances.add(new int[] {got[1], got[2]});
        } else {
            Guest g = new Guest();
            g.heads = got[1];
            g.way = List.of("keeps", "half", "none", "weighs").get(got[2]);
            g.toil = got[3];
            read.guests.add(g);
        }
    }

    long fault() {
        return fault;
    }

    private boolean noGuest(int party) {
        return hut == null || !within(party, 0, hut.guests.size() - 1);
    }

    long night(int party) {
        if (noGuest(party)) {
            return Check.BAD;
        }
        Guest g = hut.guests.get(party);
        int froze = 0;
        int wood = hut.wood;
        // Log by log: each head wants its own, and lacks one if any of its logs is not there.
        int wanted = g.heads * hut.burn;
        int burnt = 0;
        while (burnt < wanted && wood > 0) {
            burnt++;
            wood--;
        }
        for (int lacks = wanted - burnt; lacks > 0; lacks -= hut.burn) {
            froze++;
        }
        int due = hut.due(hut.law, g.heads);
        int leaves;
        switch (g.way) {
            case "keeps":
                leaves = due;
                break;
            case "half":
                leaves = due / 2;
                break;
            case "none":
                leaves = 0;
                break;
            default:
                long toil = (long) g.toil * due;
                leaves = toil <= 100 || toil <= 1000 && wood < 2 * hut.burn ? due : 0;
        }
        hut.wood = Math.min(999, wood + leaves);
        hut.nights++;
        hut.froze += froze;
        g.slept++;
        g.froze += froze;
        g.left += leaves;
        g.lacked += due - leaves;
        return froze;
    }

    long nights(int row, int i, int n) {
        if (hut == null) {
            return Check.STATE;
        }
        if (!within(row, 0, 7) || !within(n, 1, 40)) {
            return Check.BAD;
        }
        if (rows[row] == null) {
            return found(Check.NULL);
        }
        if (i < 0 || (long) i + n > rows[row].length) {
            return found(Check.PLACE);
        }
        for (int k = i; k < i + n; k++) {
            if (noGuest(rows[row][k])) {
                return Check.BAD;
            }
        }
        long froze = 0;
        for (int k = i; k < i + n; k++) {
            froze += night(rows[row][k]);
        }
        return fine(froze);
    }

    long snow(int s) {
        if (hut == null) {
            return Check.STATE;
        }
        if (!within(s, 0, 99)) {
            return Check.BAD;
        }
        hut.wood = Math.max(0, hut.wood - s);
        hut.nights++;
        return hut.wood;
    }

    long due(int law, int m) {
        if (hut == null) {
            return Check.STATE;
        }
        return within(law, 0, 2) && within(m, 1, 9) ? hut.due(law, m) : Check.BAD;
    }

    long party(int party, int what) {
        if (noGuest(party) || !within(what, 0, 5)) {
            return Check.BAD;
        }
        Guest g = hut.guests.get(party);
        return new int[] {g.heads, g.toil, g.slept, g.froze, g.left, g.lacked}[what];
    }

    // ---- foretold.

    private long all(int n) {
        long odds = 0;
        for (int[] chance : hut.chances) {
            odds += chance[1];
        }
        long all = 1;
        for (int k = 0; k < n; k++) {
            all *= odds;
        }
        return all;
    }

    /** Ways without frost, forward from a wood, with x logs more ahead of one night (0: never). */
    private long ways(int w, int n, int law, int sent, int x) {
        long[] now = new long[1000];
        now[w] = 1;
        for (int night = 1; night <= n; night++) {
            long[] next = new long[1000];
            for (int wood = 0; wood <= 999; wood++) {
                if (now[wood] == 0) {
                    continue;
                }
                int there = night == sent ? Math.min(999, wood + x) : wood;
                for (int[] chance : hut.chances) {
                    int left = there - chance[0] * hut.burn;
                    if (left >= 0) {
                        int due = chance[0] == 0 ? 0 : hut.due(law, chance[0]);
                        next[Math.min(999, left + due)] += now[wood] * chance[1];
                    }
                }
            }
            now = next;
        }
        long sum = 0;
        for (long ways : now) {
            sum += ways;
        }
        return sum;
    }

    long safe(int w, int n, int law, int what) {
        if (hut == null) {
            return Check.STATE;
        }
        if (!within(w, 0, 999) || !within(n, 1, 8) || !within(law, 0, 2) || !within(what, 0, 1)) {
            return Check.BAD;
        }
        if (hut.chances.isEmpty()) {
            return Check.NONE;
        }
        long above = ways(w, n, law, 0, 0);
        long below = all(n);
        long shared = java.math.BigInteger.valueOf(above).gcd(java.math.BigInteger.valueOf(below)).longValue();
        return (what == 0 ? above : below) / shared;
    }

    long stock(int n, int law, int q) {
        if (hut == null) {
            return Check.STATE;
        }
        if (!within(n, 1, 8) || !within(law, 0, 2) || !within(q, 0, 1000)) {
            return Check.BAD;
        }
        if (hut.chances.isEmpty() || ways(500, n, law, 0, 0) * 1000 < all(n) * q) {
            return Check.NONE;
        }
        // More wood is never worse, so the least is found by halves.
        int least = 0;
        int most = 500;
        while (least < most) {
            int half = (least + most) / 2;
            if (ways(half, n, law, 0, 0) * 1000 >= all(n) * q) {
                most = half;
            } else {
                least = half + 1;
            }
        }
        return least;
    }

    long send(int n, int x) {
        if (hut == null) {
            return Check.STATE;
        }
        if (!within(n, 1, 8) || !within(x, 1, 99)) {
            return Check.BAD;
        }
        if (hut.chances.isEmpty()) {
            return Check.NONE;
        }
        int best = 1;
        for (int night = 2; night <= n; night++) {
            if (ways(hut.wood, n, hut.law, night, x) > ways(hut.wood, n, hut.law, best, x)) {
                best = night;
            }
        }
        return best;
    }

    /** Why a book of so many items cannot be read; 0 if it can. */
    private long unread(int row, int m, int most, int each, int what) {
        if (!within(row, 0, 7) || !within(m, 1, most) || !within(what, 0, 1)) {
            return Check.BAD;
        }
        if (rows[row] == null) {
            return found(Check.NULL);
        }
        return m * each > rows[row].length ? found(Check.PLACE) : 0;
    }

    long broke(int row, int m, int what) {
        if (hut == null) {
            return Check.STATE;
        }
        long unread = unread(row, m, 13, 3, what);
        if (unread != 0) {
            return unread;
        }
        long bits = 0;
        long sum = 0;
        for (int k = 0; k < m; k++) {
            int heads = rows[row][3 * k];
            int evening = rows[row][3 * k + 1];
            int morning = rows[row][3 * k + 2];
            if (!within(heads, 1, 9) || !within(evening, 0, 999) || !within(morning, 0, 999)) {
                return Check.BAD;
            }
            int left = morning - Math.max(0, evening - heads * hut.burn);
            int due = hut.due(hut.law, heads);
            if (left < due) {
                bits += 1L << k;
                sum += due - left;
            }
        }
        return fine(what == 0 ? bits : sum);
    }

    long lies(int row, int m, int what) {
        long unread = unread(row, m, 20, 2, what);
        if (unread != 0) {
            return unread;
        }
        long bits = 0;
        int worst = NO;
        for (int k = 0; k < m; k++) {
            int wrote = rows[row][2 * k];
            int left = rows[row][2 * k + 1];
            if (!within(wrote, 0, 999) || !within(left, 0, 999)) {
                return Check.BAD;
            }
            if (wrote > left) {
                bits += 1L << k;
                if (worst == NO || wrote - left > rows[row][2 * worst] - rows[row][2 * worst + 1]) {
                    worst = k;
                }
            }
        }
        return fine(what == 0 ? bits : worst == NO ? Check.NONE : worst);
    }

    long carry(int a, int b, int n) {
        if (hut == null) {
            return Check.STATE;
        }
        if (!within(a, 0, 300) || !within(b, 0, 300) || !within(n, 1, 4)) {
            return Check.BAD;
        }
        if (hut.chances.isEmpty()) {
            return Check.NONE;
        }
        int best = 0;
        long most = NO;
        for (int c = 0; c <= a / 2; c++) {
            long both = ways(a - c - c, n, hut.law, 0, 0) * ways(b + c, n, hut.law, 0, 0);
            if (both > most) {
                most = both;
                best = c;
            }
        }
        return best;
    }

    long image(int k) {
        if (!within(k, 0, 1)) {
            return Check.BAD;
        }
        if (hut == null) {
            return Check.STATE;
        }
        images[k] = hut.copy();
        return 1;
    }

    long restore(int k) {
        if (!within(k, 0, 1)) {
            return Check.BAD;
        }
        if (images[k] == null) {
            return Check.STATE;
        }
        hut = images[k].copy();
        return 1;
    }

    // ---- asked.

    long kind(int party) {
        return noGuest(party) ? Check.BAD : hut.guests.get(party).kind();
    }

    private static Set<Integer> kinds(int kind) {
        Set<Integer> all = new HashSet<>(List.of(0, kind));
        if (kind == 2 || kind == 5) {
            all.add(1);
        }
        return all;
    }

    long as(int party, int kind) {
        if (noGuest(party) || !within(kind, 0, 5)) {
            return Check.BAD;
        }
        return kinds(hut.guests.get(party).kind()).contains(kind) ? fine(party) : found(Check.KIND);
    }

    long ask(int party, int what) {
        if (noGuest(party) || !within(what, 0, 1)) {
            return Check.BAD;
        }
        trace.clear();
        int kind = hut.guests.get(party).kind();
        return what == 0 ? body(new int[] {10, 11, 12, 13, 10, 14}[kind], party)
            : body(new int[] {20, 21, 21, 23, 22, 24}[kind], party);
    }

    private long body(int body, int party) {
        trace.add(body);
        Guest g = hut.guests.get(party);
        switch (body) {
            case 10: return g.heads;
            case 11: return body(10, party) + body(g.kind() == 5 ? 24 : 21, party);
            case 12: return 0 - body(11, party);
            case 13: return body(10, party) - 100;
            case 14: return 2 * body(11, party);
            case 20: return party;
            case 21: return body(20, party) + 10L * hut.due(hut.law, g.heads);
            case 22: return body(20, party) + g.toil;
            case 23: return body(20, party) - body(13, party);
            default: return body(21, party) - 1000;
        }
    }

    long trace(int i) {
        return within(i, 0, Math.min(16, trace.size()) - 1) ? trace.get(i) : Check.NONE;
    }

    long count(int what) {
        switch (what) {
            case 0:
                int there = 0;
                for (int[] row : rows) {
                    there += row == null ? 0 : 1;
                }
                return there;
            case 1: return hut == null ? 0 : hut.guests.size();
            case 2: return hut == null ? 0 : hut.chances.size();
            case 3: return hut == null ? 0 : hut.nights;
            case 4: return hut == null ? 0 : hut.wood;
            case 5: return hut == null ? 0 : hut.froze;
            case 6: return tape.length();
            default: return Check.BAD;
        }
    }

    long status() {
        return status;
    }
}
