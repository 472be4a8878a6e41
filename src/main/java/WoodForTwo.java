import java.util.Arrays;

/**
 * A hut on a pass: its wood, the law of what whoever slept must leave, the parties who keep it or
 * do not, nights one by one, odds foretold, and who broke the law. What each call answers and what
 * it refuses is told in DOC.md, promises 1 to 27.
 */
public final class WoodForTwo {
    public static final int NONE = -1000000;
    public static final long NOT = -9000000000000000000L;

    private static final long BAD = NOT - 1;
    private static final long STATE = NOT - 2;
    private static final long FULL = NOT - 3;

    private static final int NULL = 1;
    private static final int PLACE = 2;
    private static final int KIND = 3;
    private static final int SIZE = 4;
    private static final int STORE = 5;

    private static final int BYTES = 0;
    private static final int SHORTS = 1;
    private static final int INTS = 2;

    private static final int ROWS = 8;
    private static final int MOST_ITEMS = 40;
    private static final int MISSING = -1;
    private static final int MOST_BYTES = 400;
    private static final int MOST_CHANCES = 6;
    private static final int MOST_PARTIES = 16;
    private static final int MOST_HEADS = 9;
    private static final int MOST_BURN = 9;
    private static final int MOST_WOOD = 999;
    private static final int MOST_TOLD_WOOD = 500;
    private static final int MOST_TRACE = 16;
    private static final int IMAGES = 2;

    private static final int HEAD = 0;
    private static final int FLAT = 1;
    private static final int LESS = 2;

    private static final int MOST_NIGHTS = 8;
    private static final int MOST_STOCK = 500;
    private static final int MOST_CUT = 99;
    private static final int MOST_BROKE = 13;
    private static final int MOST_WRITERS = 20;
    private static final int MOST_CARRY_WOOD = 300;
    private static final int MOST_CARRY_NIGHTS = 4;

    private final int[][] items = new int[ROWS][MOST_ITEMS];
    private final int[] lanes = new int[ROWS];
    private final int[] sizes = new int[ROWS];
    private final Reader reader = new Reader();
    private final Foretelling foretelling = new Foretelling();
    private final Trace bodies = new Trace();
    private final Pass[] images = new Pass[IMAGES];
    private Pass here = new Pass();
    private Pass spare = new Pass();
    private int latestFinding;

    public WoodForTwo() {
        Arrays.fill(sizes, MISSING);
        for (int k = 0; k < IMAGES; k++) {
            images[k] = new Pass();
        }
    }

    // ---- rows.

    public long row(int row, int lane, int n) {
        if (!isRow(row) || lane < BYTES || lane > INTS || n > MOST_ITEMS) {
            return BAD;
        }
        if (n < 0) {
            return found(SIZE);
        }
        lanes[row] = lane;
        sizes[row] = n;
        Arrays.fill(items[row], 0);
        return fine(n);
    }

    public long set(int row, int i, int v) {
        if (!isRow(row)) {
            return BAD;
        }
        int finding = findingOfSpan(row, i, 1);
        if (finding != 0) {
            return found(finding);
        }
        int kept = lowestBits(lanes[row], v);
        items[row][i] = kept;
        return fine(kept);
    }

    public long copy(int a, int i, int b, int j, int n) {
        if (!isRow(a) || !isRow(b)) {
            return BAD;
        }
        if (sizes[a] == MISSING || sizes[b] == MISSING) {
            return found(NULL);
        }
        if (lanes[a] != lanes[b]) {
            return found(STORE);
        }
        if (!isSpan(sizes[a], i, n) || !isSpan(sizes[b], j, n)) {
            return found(PLACE);
        }
        System.arraycopy(items[a], i, items[b], j, n);
        return fine(n);
    }

    public long drop(int row) {
        if (!isRow(row)) {
            return BAD;
        }
        if (sizes[row] == MISSING) {
            return found(NULL);
        }
        int had = sizes[row];
        sizes[row] = MISSING;
        return fine(had);
    }

    // ---- passes, nights.

    public long feed(long w, int n) {
        if (n < 1 || n > 8) {
            return BAD;
        }
        if (!reader.hasRoom(n)) {
            return FULL;
        }
        return reader.takeBytes(w, n);
    }

    public long pass() {
        spare.empty();
        if (!reader.readPass(spare)) {
            return NOT - 100 - reader.place;
        }
        // The pass before becomes the spare one, so that reading makes no pass anew.
        Pass before = here;
        here = spare;
        spare = before;
        here.stands = true;
        return here.parties;
    }

    public int fault() {
        return reader.latestFault;
    }

    public long night(int party) {
        if (here.partyAt(party) == null) {
            return BAD;
        }
        return here.sleepNight(party);
    }

    public long nights(int row, int i, int n) {
        if (!here.stands) {
            return STATE;
        }
        if (!isRow(row) || n < 1 || n > MOST_ITEMS) {
            return BAD;
        }
        int finding = findingOfSpan(row, i, n);
        if (finding != 0) {
            return found(finding);
        }
        // All items are looked at before the first night: a refusal changes nothing.
        for (int k = 0; k < n; k++) {
            if (here.partyAt(items[row][i + k]) == null) {
                return BAD;
            }
        }
        long cold = 0;
        for (int k = 0; k < n; k++) {
            cold += here.sleepNight(items[row][i + k]);
        }
        return fine(cold);
    }

    public long snow(int s) {
        if (!here.stands) {
            return STATE;
        }
        if (s < 0 || s > 99) {
            return BAD;
        }
        here.loseInSnow(s);
        return here.wood;
    }

    public long due(int law, int m) {
        if (!here.stands) {
            return STATE;
        }
        if (!isLaw(law) || m < 1 || m > MOST_HEADS) {
            return BAD;
        }
        return here.owed(law, m);
    }

    public long party(int party, int what) {
        Party asked = here.partyAt(party);
        if (asked == null) {
            return BAD;
        }
        switch (what) {
            case 0:
                return asked.heads;
            case 1:
                return asked.toil;
            case 2:
                return here.slept[party];
            case 3:
                return here.froze[party];
            case 4:
                return here.left[party];
            case 5:
                return here.lacked[party];
            default:
                return BAD;
        }
    }

    // ---- foretold.

    public long safe(int w, int n, int law, int what) {
        if (!here.stands) {
            return STATE;
        }
        if (w < 0 || w > MOST_WOOD || !isNights(n) || !isLaw(law) || !isZeroOrOne(what)) {
            return BAD;
        }
        if (here.chances == 0) {
            return NONE;
        }
        foretelling.foretell(here, law, n);
        long above = foretelling.safeWays(w);
        long below = foretelling.allWays;
        long shared = greatestDivisor(above, below);
        if (shared == 0) {
            return BAD;
        }
        return what == 0 ? above / shared : below / shared;
    }

    public long stock(int n, int law, int q) {
        if (!here.stands) {
            return STATE;
        }
        if (!isNights(n) || !isLaw(law) || q < 0 || q > 1000) {
            return BAD;
        }
        if (here.chances == 0) {
            return NONE;
        }
        foretelling.foretell(here, law, n);
        for (int w = 0; w <= MOST_STOCK; w++) {
            if (foretelling.safeWays(w) * 1000 >= q * foretelling.allWays) {
                return w;
            }
        }
        return NONE;
    }

    public long send(int n, int x) {
        if (!here.stands) {
            return STATE;
        }
        if (!isNights(n) || x < 1 || x > MOST_CUT) {
            return BAD;
        }
        if (here.chances == 0) {
            return NONE;
        }
        foretelling.foretell(here, here.law, n);
        return foretelling.bestNight(here.wood, x);
    }

    public long broke(int row, int m, int what) {
        if (!here.stands) {
            return STATE;
        }
        if (!isRow(row) || m < 1 || m > MOST_BROKE || !isZeroOrOne(what)) {
            return BAD;
        }
        int finding = findingOfSpan(row, 0, 3 * m);
        if (finding != 0) {
            return found(finding);
        }
        if (!areNightsTold(items[row], m)) {
            return BAD;
        }
        long who = 0;
        long lacking = 0;
        for (int k = 0; k < m; k++) {
            int heads = items[row][3 * k];
            int lacks = here.owed(here.law, heads)
                - here.leftBy(heads, items[row][3 * k + 1], items[row][3 * k + 2]);
            if (lacks > 0) {
                who |= 1L << k;
                lacking += lacks;
            }
        }
        return fine(what == 0 ? who : lacking);
    }

    public long lies(int row, int m, int what) {
        if (!isRow(row) || m < 1 || m > MOST_WRITERS || !isZeroOrOne(what)) {
            return BAD;
        }
        int finding = findingOfSpan(row, 0, 2 * m);
        if (finding != 0) {
            return found(finding);
        }
        for (int k = 0; k < 2 * m; k++) {
            if (!isWood(items[row][k])) {
                return BAD;
            }
        }
        long who = 0;
        int most = 0;
        int worst = NONE;
        for (int k = 0; k < m; k++) {
            int tooMuch = items[row][2 * k] - items[row][2 * k + 1];
            if (tooMuch > 0) {
                who |= 1L << k;
            }
            if (tooMuch > most) {
                most = tooMuch;
                worst = k;
            }
        }
        return fine(what == 0 ? who : worst);
    }

    public long carry(int a, int b, int n) {
        if (!here.stands) {
            return STATE;
        }
        if (a < 0 || a > MOST_CARRY_WOOD || b < 0 || b > MOST_CARRY_WOOD
            || n < 1 || n > MOST_CARRY_NIGHTS) {
            return BAD;
        }
        if (here.chances == 0) {
            return NONE;
        }
        foretelling.foretell(here, here.law, n);
        int best = 0;
        long most = -1;
        for (int c = 0; 2 * c <= a; c++) {
            long ways = foretelling.safeWays(a - 2 * c) * foretelling.safeWays(b + c);
            if (ways > most) {
                most = ways;
                best = c;
            }
        }
        return best;
    }

    public long image(int k) {
        if (k < 0 || k >= IMAGES) {
            return BAD;
        }
        if (!here.stands) {
            return STATE;
        }
        images[k].becomeLike(here);
        return 1;
    }

    public long restore(int k) {
        if (k < 0 || k >= IMAGES) {
            return BAD;
        }
        if (!images[k].stands) {
            return STATE;
        }
        here.becomeLike(images[k]);
        return 1;
    }

    // ---- asked.

    public long kind(int party) {
        Party asked = here.partyAt(party);
        return asked == null ? BAD : asked.kindTold();
    }

    public long as(int party, int kind) {
        Party asked = here.partyAt(party);
        if (asked == null || kind < 0 || kind > 5) {
            return BAD;
        }
        if (!isOfKind(asked, kind)) {
            return found(KIND);
        }
        return fine(party);
    }

    public long ask(int party, int what) {
        Party asked = here.partyAt(party);
        if (asked == null || !isZeroOrOne(what)) {
            return BAD;
        }
        bodies.empty();
        return what == 0 ? asked.sizeAsked(here, bodies) : asked.markAsked(here, bodies);
    }

    public int trace(int i) {
        return bodies.numberAt(i);
    }

    public long count(int what) {
        switch (what) {
            case 0:
                return rowsThere();
            case 1:
                return here.parties;
            case 2:
                return here.chances;
            case 3:
                return here.nightsGone;
            case 4:
                return here.wood;
            case 5:
                return here.frozeInAll;
            case 6:
                return reader.length;
            default:
                return BAD;
        }
    }

    public int status() {
        return latestFinding;
    }

    // ---- what the calls share.

    private long found(int finding) {
        latestFinding = finding;
        return NOT - 10 - finding;
    }

    private long fine(long answer) {
        latestFinding = 0;
        return answer;
    }

    private int rowsThere() {
        int there = 0;
        for (int row = 0; row < ROWS; row++) {
            if (sizes[row] != MISSING) {
                there++;
            }
        }
        return there;
    }

    private int findingOfSpan(int row, int i, int n) {
        if (sizes[row] == MISSING) {
            return NULL;
        }
        return isSpan(sizes[row], i, n) ? 0 : PLACE;
    }

    private static boolean isSpan(int size, int i, int n) {
        // The difference stays within an int where i + n might not.
        return i >= 0 && n >= 0 && n <= size && i <= size - n;
    }

    private static int lowestBits(int lane, int v) {
        if (lane == BYTES) {
            return (byte) v;
        }
        return lane == SHORTS ? (short) v : v;
    }

    private static boolean isRow(int row) {
        return row >= 0 && row < ROWS;
    }

    private static boolean isLaw(int law) {
        return law >= HEAD && law <= LESS;
    }

    private static boolean isNights(int n) {
        return n >= 1 && n <= MOST_NIGHTS;
    }

    private static boolean isZeroOrOne(int what) {
        return what == 0 || what == 1;
    }

    private static boolean isWood(int logs) {
        return logs >= 0 && logs <= MOST_WOOD;
    }

    private static boolean areNightsTold(int[] told, int m) {
        for (int k = 0; k < m; k++) {
            int heads = told[3 * k];
            if (heads < 1 || heads > MOST_HEADS
                || !isWood(told[3 * k + 1]) || !isWood(told[3 * k + 2])) {
                return false;
            }
        }
        return true;
    }

    private static long greatestDivisor(long a, long b) {
        // Numbers below 2 to the 47 take fewer than 70 steps; the bound only shows the end.
        for (int step = 0; step < 1000 && b != 0; step++) {
            long rest = a % b;
            a = b;
            b = rest;
        }
        return a;
    }

    private static boolean isOfKind(Party party, int kind) {
        switch (kind) {
            case 0:
                return true;
            case 1:
                return party instanceof Keeper;
            case 2:
                return party instanceof Half;
            case 3:
                return party instanceof Taker;
            case 4:
                return party instanceof Weigher;
            case 5:
                return party instanceof Lone;
            default:
                return false;
        }
    }

    /** What is told of a party and never changes, so that images may share it. */
    private abstract static class Party {
        final int number;
        final int heads;
        final int toil;

        Party(int number, int heads, int toil) {
            this.number = number;
            this.heads = heads;
            this.toil = toil;
        }

        abstract int kindTold();

        abstract int leaves(int owed, int wood, int burn);

        long sizeAsked(Pass pass, Trace trace) {
            trace.begin(10);
            return heads;
        }

        long markAsked(Pass pass, Trace trace) {
            trace.begin(20);
            return number;
        }
    }

    private static class Keeper extends Party {
        Keeper(int number, int heads, int toil) {
            super(number, heads, toil);
        }

        int kindTold() {
            return 1;
        }

        int leaves(int owed, int wood, int burn) {
            return owed;
        }

        long sizeAsked(Pass pass, Trace trace) {
            trace.begin(11);
            long lent = super.sizeAsked(pass, trace);
            return lent + markAsked(pass, trace);
        }

        long markAsked(Pass pass, Trace trace) {
            trace.begin(21);
            long lent = super.markAsked(pass, trace);
            return lent + 10L * pass.owed(pass.law, heads);
        }
    }

    private static final class Half extends Keeper {
        Half(int number, int heads, int toil) {
            super(number, heads, toil);
        }

        int kindTold() {
            return 2;
        }

        int leaves(int owed, int wood, int burn) {
            return owed / 2;
        }

        long sizeAsked(Pass pass, Trace trace) {
            trace.begin(12);
            return -super.sizeAsked(pass, trace);
        }
    }

    /** A party of the kind NONE: it leaves nothing. */
    private static final class Taker extends Party {
        Taker(int number, int heads, int toil) {
            super(number, heads, toil);
        }

        int kindTold() {
            return 3;
        }

        int leaves(int owed, int wood, int burn) {
            return 0;
        }

        long sizeAsked(Pass pass, Trace trace) {
            trace.begin(13);
            return super.sizeAsked(pass, trace) - 100;
        }

        long markAsked(Pass pass, Trace trace) {
            trace.begin(23);
            long lent = super.markAsked(pass, trace);
            return lent - sizeAsked(pass, trace);
        }
    }

    private static final class Weigher extends Party {
        Weigher(int number, int heads, int toil) {
            super(number, heads, toil);
        }

        int kindTold() {
            return 4;
        }

        int leaves(int owed, int wood, int burn) {
            int bearable = wood < 2 * burn ? 1000 : 100;
            return toil * owed <= bearable ? owed : 0;
        }

        long markAsked(Pass pass, Trace trace) {
            trace.begin(22);
            return super.markAsked(pass, trace) + toil;
        }
    }

    private static final class Lone extends Keeper {
        Lone(int number, int toil) {
            super(number, 1, toil);
        }

        int kindTold() {
            return 5;
        }

        long sizeAsked(Pass pass, Trace trace) {
            trace.begin(14);
            return 2 * super.sizeAsked(pass, trace);
        }

        long markAsked(Pass pass, Trace trace) {
            trace.begin(24);
            return super.markAsked(pass, trace) - 1000;
        }
    }

    /** The numbers of the bodies that began in the latest ask. */
    private static final class Trace {
        private final int[] numbers = new int[MOST_TRACE];
        private int length;

        void empty() {
            length = 0;
        }

        void begin(int body) {
            if (length < MOST_TRACE) {
                numbers[length] = body;
                length++;
            }
        }

        int numberAt(int i) {
            return i >= 0 && i < length ? numbers[i] : NONE;
        }
    }

    /** A hut, its chances and parties, and what the nights have made of them. */
    private static final class Pass {
        boolean stands;
        int wood;
        int burn;
        int law;
        int times;
        int chances;
        int parties;
        int nightsGone;
        int frozeInAll;
        final int[] chanceHeads = new int[MOST_CHANCES];
        final int[] chanceOdds = new int[MOST_CHANCES];
        final int[] slept = new int[MOST_PARTIES];
        final int[] froze = new int[MOST_PARTIES];
        final int[] left = new int[MOST_PARTIES];
        final int[] lacked = new int[MOST_PARTIES];
        private final Party[] told = new Party[MOST_PARTIES];

        void empty() {
            stands = false;
            wood = 0;
            burn = 0;
            law = 0;
            times = 0;
            chances = 0;
            parties = 0;
            nightsGone = 0;
            frozeInAll = 0;
            Arrays.fill(slept, 0);
            Arrays.fill(froze, 0);
            Arrays.fill(left, 0);
            Arrays.fill(lacked, 0);
        }

        void becomeLike(Pass other) {
            stands = other.stands;
            wood = other.wood;
            burn = other.burn;
            law = other.law;
            times = other.times;
            chances = other.chances;
            parties = other.parties;
            nightsGone = other.nightsGone;
            frozeInAll = other.frozeInAll;
            System.arraycopy(other.chanceHeads, 0, chanceHeads, 0, MOST_CHANCES);
            System.arraycopy(other.chanceOdds, 0, chanceOdds, 0, MOST_CHANCES);
            System.arraycopy(other.slept, 0, slept, 0, MOST_PARTIES);
            System.arraycopy(other.froze, 0, froze, 0, MOST_PARTIES);
            System.arraycopy(other.left, 0, left, 0, MOST_PARTIES);
            System.arraycopy(other.lacked, 0, lacked, 0, MOST_PARTIES);
            for (int party = 0; party < MOST_PARTIES; party++) {
                told[party] = other.told[party];
            }
        }

        /** The party of a number; null where there is no such one. */
        Party partyAt(int party) {
            return party >= 0 && party < parties ? told[party] : null;
        }

        void addParty(Party party) {
            if (parties < MOST_PARTIES) {
                told[parties] = party;
                parties++;
            }
        }

        boolean hasChance(int heads) {
            for (int i = 0; i < chances; i++) {
                if (chanceHeads[i] == heads) {
                    return true;
                }
            }
            return false;
        }

        void addChance(int heads, int odds) {
            if (chances < MOST_CHANCES) {
                chanceHeads[chances] = heads;
                chanceOdds[chances] = odds;
                chances++;
            }
        }

        int owed(int byLaw, int heads) {
            switch (byLaw) {
                case HEAD:
                    return times * heads * burn;
                case FLAT:
                    return times * burn;
                default:
                    return times * burn + (heads - 1) * burn / 2;
            }
        }

        /** A night of a party: how many freeze. */
        int sleepNight(int party) {
            Party guest = partyAt(party);
            if (guest == null) {
                return 0;
            }
            int wanted = guest.heads * burn;
            int burnt = Math.min(wanted, wood);
            int cold = headsWithout(wanted - burnt);
            wood -= burnt;
            int owed = owed(law, guest.heads);
            int leaves = guest.leaves(owed, wood, burn);
            wood = Math.min(MOST_WOOD, wood + leaves);
            slept[party]++;
            froze[party] += cold;
            left[party] += leaves;
            lacked[party] += owed - leaves;
            nightsGone++;
            frozeInAll += cold;
            return cold;
        }

        private int headsWithout(int logs) {
            return burn < 1 ? 0 : (logs + burn - 1) / burn;
        }

        void loseInSnow(int logs) {
            wood -= Math.min(wood, logs);
            nightsGone++;
        }

        int leftBy(int heads, int evening, int morning) {
            int notBurnt = evening - Math.min(evening, heads * burn);
            return morning - notBurnt;
        }
    }

    /** The tape, and the reading of a pass from it, token by token. */
    private static final class Reader {
        private static final int END = 0;
        private static final int NAME = 1;
        private static final int NUMBER = 2;
        private static final int SIGN = 3;
        private static final int NO_TOKEN = 4;
        private static final int MOST_FIGURES = 3;

        private static final int CANNOT_STAND = 1;
        private static final int NOT_AS_TOLD = 2;
        private static final int NO_ROOM = 3;
        private static final int FAILED = -1;

        private static final int KEEPS = 0;
        private static final int HALF = 1;
        private static final int NOTHING = 2;
        private static final int WEIGHS = 3;

        private final byte[] tape = new byte[MOST_BYTES];
        private int length;
        private int start;
        private int behind;
        private int sort;
        private int value;
        private int latestFault;
        private int place;

        boolean hasRoom(int n) {
            return n <= MOST_BYTES - length;
        }

        int takeBytes(long w, int n) {
            for (int i = n - 1; i >= 0 && length < MOST_BYTES; i--) {
                tape[length] = (byte) (w >> (8 * i));
                length++;
            }
            return length;
        }

        boolean readPass(Pass into) {
            behind = 0;
            nextToken();
            boolean read = readHut(into) && readChances(into) && readParties(into) && readEnd();
            length = 0;
            return read;
        }

        private boolean readHut(Pass into) {
            if (!isWord("hut")) {
                return fail(CANNOT_STAND);
            }
            nextToken();
            into.wood = readNumber(0, MOST_TOLD_WOOD);
            into.burn = into.wood == FAILED ? FAILED : readNumber(1, MOST_BURN);
            into.law = into.burn == FAILED ? FAILED : readLaw();
            into.times = into.law == FAILED ? FAILED : readNumber(0, 9);
            return into.times != FAILED && readSign();
        }

        private boolean readChances(Pass into) {
            for (int i = 0; i <= MOST_CHANCES && isWord("chance"); i++) {
                if (i == MOST_CHANCES) {
                    return fail(NO_ROOM);
                }
                nextToken();
                if (sort == NUMBER && into.hasChance(value)) {
                    return fail(NOT_AS_TOLD);
                }
                int heads = readNumber(0, MOST_HEADS);
                int odds = heads == FAILED ? FAILED : readNumber(1, 9);
                if (odds == FAILED || !readSign()) {
                    return false;
                }
                into.addChance(heads, odds);
            }
            return true;
        }

        private boolean readParties(Pass into) {
            for (int i = 0; i <= MOST_PARTIES && isWord("party"); i++) {
                if (i == MOST_PARTIES) {
                    return fail(NO_ROOM);
                }
                nextToken();
                int heads = readNumber(1, MOST_HEADS);
                int way = heads == FAILED ? FAILED : readWay();
                int toil = way == FAILED ? FAILED : readNumber(0, 99);
                if (toil == FAILED || !readSign()) {
                    return false;
                }
                into.addParty(partyOf(into.parties, heads, way, toil));
            }
            return true;
        }

        private static Party partyOf(int number, int heads, int way, int toil) {
            switch (way) {
                case KEEPS:
                    return heads == 1 ? new Lone(number, toil) : new Keeper(number, heads, toil);
                case HALF:
                    return new Half(number, heads, toil);
                case WEIGHS:
                    return new Weigher(number, heads, toil);
                default:
                    return new Taker(number, heads, toil);
            }
        }

        private int readLaw() {
            int law = isWord("head") ? HEAD : isWord("flat") ? FLAT : isWord("less") ? LESS : FAILED;
            return pastName(law);
        }

        private int readWay() {
            int way = isWord("keeps") ? KEEPS : isWord("half") ? HALF
                : isWord("none") ? NOTHING : isWord("weighs") ? WEIGHS : FAILED;
            return pastName(way);
        }

        private int pastName(int meant) {
            if (meant == FAILED) {
                fail(CANNOT_STAND);
            } else {
                nextToken();
            }
            return meant;
        }

        private int readNumber(int least, int most) {
            if (sort != NUMBER) {
                fail(CANNOT_STAND);
                return FAILED;
            }
            if (value < least || value > most) {
                fail(NOT_AS_TOLD);
                return FAILED;
            }
            int read = value;
            nextToken();
            return read;
        }

        private boolean readSign() {
            if (sort != SIGN) {
                return fail(CANNOT_STAND);
            }
            nextToken();
            return true;
        }

        private boolean readEnd() {
            return sort == END || fail(CANNOT_STAND);
        }

        private boolean fail(int fault) {
            latestFault = fault;
            place = start;
            return false;
        }

        private boolean isWord(String word) {
            if (sort != NAME || behind - start != word.length()) {
                return false;
            }
            for (int i = 0; i < word.length(); i++) {
                if (tape[start + i] != word.charAt(i)) {
                    return false;
                }
            }
            return true;
        }

        private void nextToken() {
            while (behind < length && (tape[behind] == 32 || tape[behind] == 10)) {
                behind++;
            }
            start = behind;
            sort = sortAt(start);
            if (sort == SIGN) {
                behind++;
            } else if (sort == NAME || sort == NUMBER) {
                while (behind < length && sortAt(behind) == sort) {
                    behind++;
                }
            }
            if (sort == NUMBER) {
                takeFigures();
            }
        }

        private void takeFigures() {
            if (behind - start > MOST_FIGURES) {
                sort = NO_TOKEN;
                return;
            }
            value = 0;
            for (int i = start; i < behind; i++) {
                value = 10 * value + tape[i] - '0';
            }
        }

        private int sortAt(int i) {
            if (i < 0 || i >= length) {
                return END;
            }
            byte b = tape[i];
            if (b >= 'a' && b <= 'z') {
                return NAME;
            }
            if (b >= '0' && b <= '9') {
                return NUMBER;
            }
            return b == ';' ? SIGN : NO_TOKEN;
        }
    }

    /**
     * Ways in which nights by chances go without frost. A way weighs its odds multiplied; at most 54
     * to the 8 in all, which a long holds a thousand times over.
     */
    private static final class Foretelling {
        private static final int MOST_NEEDED = MOST_NIGHTS * MOST_HEADS * MOST_BURN;

        private final long[][] waysFree = new long[MOST_NIGHTS + 1][MOST_NEEDED + 1];
        private final int[] burns = new int[MOST_CHANCES];
        private final int[] leaves = new int[MOST_CHANCES];
        private final int[] odds = new int[MOST_CHANCES];
        private long[] now = new long[MOST_NEEDED + 1];
        private long[] next = new long[MOST_NEEDED + 1];
        private int chances;
        private int nights;
        private int enough;
        private long allWays;

        /** From each wood (as far as it matters) the ways without frost of 0 .. n nights. */
        void foretell(Pass pass, int law, int n) {
            takeChances(pass, law, n);
            Arrays.fill(waysFree[0], 1L);
            for (int k = 1; k <= n; k++) {
                for (int w = 0; w <= enough; w++) {
                    waysFree[k][w] = waysFrom(w, waysFree[k - 1]);
                }
            }
        }

        private void takeChances(Pass pass, int law, int n) {
            chances = pass.chances;
            nights = n;
            int most = 0;
            int allOdds = 0;
            for (int i = 0; i < chances; i++) {
                int heads = pass.chanceHeads[i];
                burns[i] = heads * pass.burn;
                leaves[i] = heads == 0 ? 0 : pass.owed(law, heads);
                odds[i] = pass.chanceOdds[i];
                most = Math.max(most, burns[i]);
                allOdds += odds[i];
            }
            // So many nights cannot burn more: any wood above this is as good as this, and as it
            // stays below 999, the most that a hut holds never makes a difference.
            enough = n * most;
            allWays = 1;
            for (int k = 0; k < n; k++) {
                allWays *= allOdds;
            }
        }

        private long waysFrom(int w, long[] after) {
            long ways = 0;
            for (int i = 0; i < chances; i++) {
                if (w >= burns[i]) {
                    ways += odds[i] * after[woodAfter(w, i)];
                }
            }
            return ways;
        }

        private int woodAfter(int w, int chance) {
            return Math.min(enough, w - burns[chance] + leaves[chance]);
        }

        long safeWays(int wood) {
            return waysFree[nights][Math.min(enough, wood)];
        }

        /** The first of the nights ahead of which x logs more make most ways without frost. */
        int bestNight(int wood, int x) {
            Arrays.fill(now, 0L);
            now[Math.min(enough, wood)] = 1;
            int best = 1;
            long most = -1;
            for (int night = 1; night <= nights; night++) {
                long ways = waysWithCut(waysFree[nights - night + 1], x);
                if (ways > most) {
                    most = ways;
                    best = night;
                }
                sleepOne();
            }
            return best;
        }

        private long waysWithCut(long[] after, int x) {
            long ways = 0;
            for (int w = 0; w <= enough; w++) {
                ways += now[w] * after[Math.min(enough, w + x)];
            }
            return ways;
        }

        private void sleepOne() {
            Arrays.fill(next, 0L);
            for (int w = 0; w <= enough; w++) {
                for (int i = 0; i < chances && now[w] != 0; i++) {
                    if (w >= burns[i]) {
                        next[woodAfter(w, i)] += now[w] * odds[i];
                    }
                }
            }
            long[] before = now;
            now = next;
            next = before;
        }
    }
}
