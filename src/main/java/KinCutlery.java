import java.util.Arrays;

/** A table of strangers who eat with the pieces of a family, and what they come to tell. */
public final class KinCutlery {
    public static final int BAD = -1, FULL = -2, NONE = -3;

    private static final int NO_ROW = -9;
    private static final int NOTHING = -11, OUTSIDE = -12, OTHER_SORT = -13, BELOW_0 = -14, PARTED_BY_0 = -15;
    private static final int FAULT_FROM = -100;
    private static final int MARK = 1000;

    private static final int LAWS = 4;
    private static final int BREATH = 0, SALT = 1, DEPTH = 2, SLIP = 3;
    private static final int[] LAW_AT_FIRST = {3, 2, 90, 20};
    private static final int[] LAW_AT_MOST = {9, 9, 99, 99};

    private static final int KINDS = 6;
    private static final int GUEST = 0, NIECE = 1, ACTUARY = 2, HEIR = 3, CLERK = 4, GIRL = 5;
    private static final int[] KIND_ABOVE = {-1, GUEST, GUEST, NIECE, ACTUARY, GUEST};

    private static final int MOST_GUESTS = 8, PARTS = 8;
    private static final int MOST_GONE = 99, MOST_TOLD = 99999, MOST_TELLS = 9999, MOST_TOLD_IN_TEXT = 999;
    private static final int MOST_COURSES = 60, MOST_FOR = 40, MOST_STRANGERS = 20, MOST_LUCK = 30;
    private static final int MOST_ODDS = 8, MOST_HOPE = 99;
    private static final int MOST_BYTES = 200, MOST_ROWS = 10, ROW_WIDTH = 3, MOST_BODIES = 30;
    private static final int SHEETS = 4, SORTS = 4, MOST_ITEMS = 40, MISSING = -1, ANY = -1;
    private static final int SHELVES = 4, HOLDS_GUEST = 0, HOLDS_ROW = 1, HOLDS_NOTHING = 2;

    private static final int ACTS = 4;
    private static final int LIFTS = 0, CUTS = 1, PARTED = 2;
    // Which body each KIND (a line) has of each ACT: its own, or that of the nearest KIND above.
    private static final int[] BODY_OF = {
        10, 11, 12, 13,
        10, 20, 12, 13,
        30, 11, 12, 31,
        51, 20, 50, 13,
        40, 41, 12, 31,
        10, 11, 61, 60
    };
    private static final int DEEPEST_BODY = 20;

    private final Table now = new Table();
    private final Table tried = new Table();
    private final Table kept = new Table();
    private boolean keptAny;
    private final Tape tape = new Tape();
    private final Rows rows = new Rows();
    private final Sheet[] sheets = new Sheet[SHEETS];
    private final Shelf[] shelves = new Shelf[SHELVES];
    private final Stage stage = new Stage();

    public KinCutlery() {
        for (int i = 0; i < SHEETS; i++) {
            sheets[i] = new Sheet();
        }
        for (int i = 0; i < SHELVES; i++) {
            shelves[i] = new Shelf();
        }
    }

    // ---- the tape

    public int feed(long eight, int n) {
        if (!within(n, 1, 8)) {
            return BAD;
        }
        if (tape.length + n > MOST_BYTES) {
            return FULL;
        }
        for (int i = 0; i < n; i++) {
            tape.bytes[tape.length] = (byte) (eight >>> (8 * i));
            tape.length++;
        }
        return tape.length;
    }

    public int feast() {
        tried.clear();
        tried.z = now.z;
        boolean understood = tape.readInto(tried);
        int fault = tape.place;
        tape.length = 0;
        if (!understood) {
            return FAULT_FROM - fault;
        }
        now.copyFrom(tried);
        rows.count = 0;
        return now.count;
    }

    // ---- laws and guests

    public int set(int law, int v) {
        if (!within(law, 0, LAWS - 1) || !within(v, 0, LAW_AT_MOST[law])) {
            return BAD;
        }
        int was = now.laws[law];
        now.laws[law] = v;
        return was;
    }

    public int lawOf(int law) {
        return within(law, 0, LAWS - 1) ? now.laws[law] : BAD;
    }

    public int guest(int kind, int piece) {
        if (!within(kind, 0, KINDS - 1) || !within(piece, 0, PARTS - 1)) {
            return BAD;
        }
        return now.count < MOST_GUESTS ? now.seat(kind, piece) : FULL;
    }

    public int of(int guest, int what) {
        if (!now.has(guest)) {
            return BAD;
        }
        switch (what) {
            case 0: return now.kind[guest];
            case 1: return now.holds[guest];
            case 2: return now.gone[guest];
            case 3: return now.tells[guest];
            case 4: return now.isDrowned(guest) ? 1 : 0;
            default: return BAD;
        }
    }

    public int does(int guest, int what) {
        if (!now.has(guest)) {
            return BAD;
        }
        switch (what) {
            case 0: return MARK + now.takes(guest);
            case 1: return MARK + now.needs(guest);
            case 2: return MARK + now.costs(guest);
            default: return BAD;
        }
    }

    public int mind(int guest, int kind) {
        if (!now.has(guest) || !within(kind, 0, KINDS - 1)) {
            return BAD;
        }
        int was = now.kind[guest];
        now.kind[guest] = kind;
        return was;
    }

    public int give(int guest, int piece) {
        if (!now.has(guest) || !within(piece, 0, PARTS - 1)) {
            return BAD;
        }
        int was = now.holds[guest];
        now.holds[guest] = piece;
        return was;
    }

    public int sink(int guest, int what, int v) {
        if (!now.has(guest)) {
            return BAD;
        }
        if (what == 0 && within(v, 0, MOST_GONE)) {
            int was = now.gone[guest];
            now.gone[guest] = v;
            return was;
        }
        if (what == 1 && within(v, 0, 1)) {
            int was = now.isDrowned(guest) ? 1 : 0;
            now.drown(guest, v == 1);
            return was;
        }
        return BAD;
    }

    // ---- courses

    public int courses(int n) {
        return within(n, 1, MOST_COURSES) ? now.toldBehind(n) : BAD;
    }

    public int seed(int v) {
        int was = now.z;
        now.z = v;
        return was;
    }

    public int course() {
        now.serveByDraws();
        return now.told;
    }

    public int luck(int n) {
        if (!within(n, 1, MOST_LUCK)) {
            return BAD;
        }
        int plain = triedTale(1);
        int lucky = 0;
        int z = now.z;
        for (int i = 0; i < n; i++) {
            tried.copyFrom(now);
            tried.z = z;
            tried.serveByDraws();
            z = tried.z;
            if (tried.told > plain) {
                lucky++;
            }
        }
        return lucky;
    }

    public int state(int what) {
        switch (what) {
            case 0: return now.course;
            case 1: return now.told;
            case 2: return now.next();
            case 3: return now.drowned;
            case 4: return now.goneTogether();
            case 5: return now.gap();
            default: return BAD;
        }
    }

    // ---- what is tried

    public int deep(int guest, int n) {
        if (!now.has(guest) || !within(n, 0, MOST_COURSES)) {
            return BAD;
        }
        triedTale(n);
        return tried.gone[guest];
    }

    public int speaks(int guest) {
        if (!now.has(guest)) {
            return BAD;
        }
        tried.copyFrom(now);
        return tried.coursesUntilTelling(guest, MOST_COURSES);
    }

    public int sinks(int guest) {
        if (!now.has(guest)) {
            return BAD;
        }
        tried.copyFrom(now);
        return tried.coursesUntilDrowned(guest, MOST_COURSES);
    }

    public int whole() {
        tried.copyFrom(now);
        return tried.coursesUntilWhole(MOST_COURSES);
    }

    public int tale(int n) {
        return within(n, 0, MOST_COURSES) ? triedTale(n) : BAD;
    }

    public int pieceFor(int guest, int n) {
        if (!now.has(guest) || !within(n, 1, MOST_FOR)) {
            return BAD;
        }
        int best = 0;
        int most = -1;
        for (int piece = 0; piece < PARTS; piece++) {
            tried.copyFrom(now);
            tried.holds[guest] = piece;
            int told = tried.toldBehind(n);
            if (told > most) {
                most = told;
                best = piece;
            }
        }
        return best;
    }

    public int kindFor(int guest, int n) {
        if (!now.has(guest) || !within(n, 1, MOST_FOR)) {
            return BAD;
        }
        int best = 0;
        int most = -1;
        for (int kind = 0; kind < KINDS; kind++) {
            tried.copyFrom(now);
            tried.kind[guest] = kind;
            int told = tried.toldBehind(n);
            if (told > most) {
                most = told;
                best = kind;
            }
        }
        return best;
    }

    public int goneFor(int guest, int n) {
        if (!now.has(guest) || !within(n, 1, MOST_FOR)) {
            return BAD;
        }
        for (int gone = 0; gone <= MOST_GONE; gone++) {
            tried.copyFrom(now);
            tried.gone[guest] = gone;
            if (tried.coursesUntilTelling(guest, n) != NONE) {
                return gone;
            }
        }
        return NONE;
    }

    public int depthFor(int n) {
        if (!within(n, 1, MOST_FOR)) {
            return BAD;
        }
        // As long as nobody is drowned, DEPTH changes nothing: so the deepest that anyone
        // gets where nobody can be drowned is the least DEPTH that drowns nobody.
        tried.copyFrom(now);
        tried.laws[DEPTH] = MOST_GONE;
        int deepest = 0;
        for (int i = 0; i < n; i++) {
            tried.serve();
            deepest = Math.max(deepest, tried.deepestAlive());
        }
        return deepest;
    }

    public int strangersFor(int n, int v) {
        if (!within(n, 1, MOST_STRANGERS) || !within(v, 0, MOST_TOLD)) {
            return BAD;
        }
        if (now.told >= v) {
            return 0;
        }
        if (v - now.told > n * now.laws[BREATH]) {
            return NONE;
        }
        // A guest who is drowned, or whose part isn't among those to be told, helps no set;
        // a set without one of the pieces to be told can't get there: only the rest is tried.
        int pieces = now.piecesUntil(v);
        int helpers = now.holdersOf(pieces);
        for (int size = 1; size <= now.count; size++) {
            for (int set = 1; set <= now.everyone(); set++) {
                if (Integer.bitCount(set) == size && (set & ~helpers) == 0
                        && now.piecesOf(set) == pieces && reaches(set, n, v)) {
                    return set;
                }
            }
        }
        return NONE;
    }

    private boolean reaches(int set, int n, int v) {
        tried.copyFrom(now);
        tried.drowned |= tried.everyone() & ~set;
        return tried.toldBehind(n) >= v;
    }

    public int fits(int sheet, int guest, int what) {
        if (!within(sheet, 0, SHEETS - 1) || !now.has(guest) || !within(what, 0, 1)) {
            return BAD;
        }
        Sheet told = sheets[sheet];
        if (told.sort == MISSING) {
            return NOTHING;
        }
        int fitting = 0;
        int least = NONE;
        for (int piece = PARTS - 1; piece >= 0; piece--) {
            tried.copyFrom(now);
            tried.holds[guest] = piece;
            if (goesAs(told)) {
                fitting++;
                least = piece;
            }
        }
        return what == 0 ? fitting : least;
    }

    private boolean goesAs(Sheet told) {
        for (int i = 0; i < told.length; i++) {
            tried.serve();
            if (told.items[i] != ANY && told.items[i] != tried.told) {
                return false;
            }
        }
        return true;
    }

    /** TALE by n, and what all has become behind it in tried. */
    private int triedTale(int n) {
        tried.copyFrom(now);
        return tried.toldBehind(n);
    }

    // ---- odds of slips

    public long odds(int n, int k, int part) {
        if (!within(n, 0, MOST_ODDS) || !within(k, 0, n) || !within(part, 0, 1)) {
            return BAD;
        }
        long above = 1;
        long below = 1;
        for (int i = 0; i < n; i++) {
            above *= i < k ? now.laws[SLIP] : 100 - now.laws[SLIP];
            below *= 100;
        }
        // All ways together are at most 100 to the 8th, so nothing wraps.
        return partOf(above * waysToChoose(n, k), below, part);
    }

    public long hope(int n, int part) {
        if (!within(n, 0, MOST_HOPE) || !within(part, 0, 1)) {
            return BAD;
        }
        return partOf((long) n * now.laws[SLIP], 100, part);
    }

    private static long waysToChoose(int n, int k) {
        long ways = 1;
        for (int i = 0; i < k; i++) {
            ways = ways * (n - i) / (i + 1);
        }
        return ways;
    }

    private static long partOf(long above, long below, int part) {
        long common = commonDivisor(above, below);
        if (common == 0) {
            return 0;
        }
        return part == 0 ? above / common : below / common;
    }

    private static long commonDivisor(long one, long other) {
        long a = one;
        long b = other;
        // Euclid's steps for longs are fewer than 100.
        for (int i = 0; i < 100 && b != 0; i++) {
            long rest = a % b;
            a = b;
            b = rest;
        }
        return a;
    }

    // ---- rows

    public int prove(int guest, int n) {
        if (!now.has(guest) || !within(n, 1, MOST_ROWS)) {
            return BAD;
        }
        tried.copyFrom(now);
        for (int i = 0; i < n; i++) {
            tried.serve();
            for (int what = 0; what < ROW_WIDTH; what++) {
                rows.cells[i * ROW_WIDTH + what] = triedCell(guest, what);
            }
        }
        rows.count = n;
        return n;
    }

    public int row(int i, int what) {
        return rows.has(i, what) ? rows.cells[i * ROW_WIDTH + what] : NO_ROW;
    }

    public int alterRow(int i, int what, int v) {
        if (!rows.has(i, what)) {
            return NO_ROW;
        }
        int was = rows.cells[i * ROW_WIDTH + what];
        rows.cells[i * ROW_WIDTH + what] = v;
        return was;
    }

    public int judge(int guest) {
        if (!now.has(guest)) {
            return BAD;
        }
        tried.copyFrom(now);
        for (int i = 0; i < rows.count; i++) {
            tried.serve();
            for (int what = 0; what < ROW_WIDTH; what++) {
                if (rows.cells[i * ROW_WIDTH + what] != triedCell(guest, what)) {
                    return i + 1;
                }
            }
        }
        return 0;
    }

    private int triedCell(int guest, int what) {
        switch (what) {
            case 0: return tried.gone[guest];
            case 1: return tried.tells[guest];
            default: return tried.told;
        }
    }

    // ---- sheets

    public int minds(int sheet, int i, int guest, int n) {
        if (!within(sheet, 0, SHEETS - 1) || !now.has(guest) || !within(n, 0, MOST_GUESTS)
                || guest + n > now.count) {
            return BAD;
        }
        Sheet from = sheets[sheet];
        if (from.sort == MISSING) {
            return NOTHING;
        }
        if (from.sort != 0) {
            return OTHER_SORT;
        }
        if (!within(i, 0, from.length) || i + n > from.length) {
            return OUTSIDE;
        }
        for (int k = 0; k < n; k++) {
            now.gone[guest + k] = held((int) from.items[i + k]);
        }
        return n;
    }

    public int sheet(int sheet, int sort, int n) {
        if (!within(sheet, 0, SHEETS - 1) || !within(sort, MISSING, SORTS - 1)) {
            return BAD;
        }
        if (sort == MISSING) {
            sheets[sheet].become(MISSING, 0);
            return 1;
        }
        if (n > MOST_ITEMS) {
            return BAD;
        }
        if (n < 0) {
            return BELOW_0;
        }
        sheets[sheet].become(sort, n);
        return 1;
    }

    public int put(int sheet, int i, int v) {
        if (!within(sheet, 0, SHEETS - 1)) {
            return BAD;
        }
        Sheet to = sheets[sheet];
        if (to.sort == MISSING) {
            return NOTHING;
        }
        if (!within(i, 0, to.length - 1)) {
            return OUTSIDE;
        }
        to.items[i] = narrowed(v, to.sort);
        return 1;
    }

    public int item(int sheet, int sort, int i) {
        if (!within(sheet, 0, SHEETS - 1) || !within(sort, 0, SORTS - 1)) {
            return BAD;
        }
        Sheet from = sheets[sheet];
        if (from.sort == MISSING) {
            return NOTHING;
        }
        if (from.sort != sort) {
            return OTHER_SORT;
        }
        return within(i, 0, from.length - 1) ? (int) from.items[i] : OUTSIDE;
    }

    private static int narrowed(int v, int sort) {
        switch (sort) {
            case 0: return (byte) v;
            case 1: return (short) v;
            default: return v;
        }
    }

    // ---- shelves and acts

    public int shelf(int shelf, int what, int n) {
        if (!within(shelf, 0, SHELVES - 1)) {
            return BAD;
        }
        Shelf to = shelves[shelf];
        switch (what) {
            case HOLDS_GUEST:
                if (!now.has(n)) {
                    return BAD;
                }
                to.holdGuest(n);
                return 1;
            case HOLDS_ROW:
                if (!within(n, 0, SHEETS - 1)) {
                    return BAD;
                }
                to.holdRow(sheets[n]);
                return 1;
            case HOLDS_NOTHING:
                to.what = HOLDS_NOTHING;
                return 1;
            default:
                return BAD;
        }
    }

    public int taken(int shelf, int as) {
        if (!within(shelf, 0, SHELVES - 1) || !within(as, 0, KINDS - 1) && !within(as, 10, 10 + SORTS - 1)) {
            return BAD;
        }
        Shelf from = shelves[shelf];
        switch (heldNow(from)) {
            case HOLDS_GUEST:
                return isUnder(now.kind[from.number], as) ? from.number : OTHER_SORT;
            case HOLDS_ROW:
                return as - 10 == from.sort ? from.length : OTHER_SORT;
            default:
                return NOTHING;
        }
    }

    public int act(int shelf, int act, int x) {
        stage.traced = 0;
        if (!within(shelf, 0, SHELVES - 1) || !within(act, 0, ACTS - 1)
                || heldNow(shelves[shelf]) != HOLDS_GUEST) {
            return 0;
        }
        int n = shelves[shelf].number;
        return stage.perform(now.kind[n], n, now.holds[n], act, x);
    }

    public int trace(int i) {
        return within(i, 0, stage.traced - 1) ? stage.bodies[i] : NONE;
    }

    /** What a shelf holds at this time: a guest may have gone since it was put there. */
    private int heldNow(Shelf shelf) {
        return shelf.what == HOLDS_GUEST && !now.has(shelf.number) ? HOLDS_NOTHING : shelf.what;
    }

    private static boolean isUnder(int kind, int as) {
        int k = kind;
        for (int i = 0; i < KINDS && within(k, 0, KINDS - 1); i++) {
            if (k == as) {
                return true;
            }
            k = KIND_ABOVE[k];
        }
        return false;
    }

    // ---- counts and what is kept

    public int many(int what) {
        switch (what) {
            case 0: return now.count;
            case 1: return Integer.bitCount(now.drowned);
            case 2: return now.tellers();
            case 3: return Integer.bitCount(now.piecesOf(~now.drowned));
            case 4: return rows.count;
            case 5: return tape.length;
            case 6: return stage.traced;
            default: return BAD;
        }
    }

    public int keep() {
        kept.copyFrom(now);
        keptAny = true;
        return 1;
    }

    public int again() {
        if (!keptAny) {
            return NONE;
        }
        now.copyFrom(kept);
        return now.count;
    }

    private static boolean within(int v, int least, int most) {
        return v >= least && v <= most;
    }

    private static int held(int gone) {
        return Math.max(0, Math.min(MOST_GONE, gone));
    }

    /** All that is kept by keep() and tried: the laws, the guests, the tale, and z. */
    private static final class Table {
        final int[] laws = new int[LAWS];
        final int[] kind = new int[MOST_GUESTS];
        final int[] holds = new int[MOST_GUESTS];
        final int[] gone = new int[MOST_GUESTS];
        final int[] tells = new int[MOST_GUESTS];
        int drowned;
        int count;
        int course;
        int told;
        int z = 1;

        Table() {
            clear();
        }

        /** All as at first, but for z. */
        void clear() {
            System.arraycopy(LAW_AT_FIRST, 0, laws, 0, LAWS);
            drowned = 0;
            count = 0;
            course = 0;
            told = 0;
        }

        void copyFrom(Table other) {
            System.arraycopy(other.laws, 0, laws, 0, LAWS);
            System.arraycopy(other.kind, 0, kind, 0, MOST_GUESTS);
            System.arraycopy(other.holds, 0, holds, 0, MOST_GUESTS);
            System.arraycopy(other.gone, 0, gone, 0, MOST_GUESTS);
            System.arraycopy(other.tells, 0, tells, 0, MOST_GUESTS);
            drowned = other.drowned;
            count = other.count;
            course = other.course;
            told = other.told;
            z = other.z;
        }

        boolean has(int g) {
            return within(g, 0, count - 1);
        }

        /** All guests, as a set. */
        int everyone() {
            return (1 << count) - 1;
        }

        boolean isDrowned(int g) {
            return (drowned >> g & 1) == 1;
        }

        void drown(int g, boolean really) {
            drowned = really ? drowned | 1 << g : drowned & ~(1 << g);
        }

        /** The caller has seen that there is a place left. */
        int seat(int newKind, int piece) {
            int g = count;
            kind[g] = newKind;
            holds[g] = piece;
            gone[g] = 0;
            tells[g] = 0;
            drown(g, false);
            count++;
            return g;
        }

        int next() {
            return told % PARTS;
        }

        int takes(int g) {
            switch (kind[g]) {
                case NIECE: return 4 + laws[SALT];
                case HEIR: return (4 + laws[SALT]) * 2;
                case ACTUARY: return 2;
                case CLERK: return 2 - laws[SALT];
                case GIRL: return holds[g] == next() ? 9 : 4;
                default: return 4;
            }
        }

        int needs(int g) {
            switch (kind[g]) {
                case NIECE: return 15;
                case HEIR: return 15 - laws[SALT];
                case ACTUARY: return 30;
                case CLERK: return 30 - gone[g] / 10;
                case GIRL: return 10;
                default: return 20;
            }
        }

        int costs(int g) {
            switch (kind[g]) {
                case HEIR: return 5;
                case ACTUARY: return 15;
                case CLERK: return 15 - laws[SALT];
                case GIRL: return 0;
                default: return 10;
            }
        }

        /** A COURSE. */
        void serve() {
            for (int g = 0; g < count; g++) {
                if (!isDrowned(g)) {
                    gone[g] = held(gone[g] + takes(g));
                }
            }
            for (int i = 0; i < laws[BREATH]; i++) {
                int g = teller();
                if (g == NONE) {
                    break;
                }
                tellNext(g);
            }
            for (int g = 0; g < count; g++) {
                if (gone[g] > laws[DEPTH]) {
                    drown(g, true);
                }
            }
            course++;
        }

        private int teller() {
            int next = next();
            for (int g = 0; g < count; g++) {
                if (holds[g] == next && !isDrowned(g) && gone[g] >= needs(g)) {
                    return g;
                }
            }
            return NONE;
        }

        private void tellNext(int g) {
            int cost = costs(g);
            told = Math.min(MOST_TOLD, told + 1);
            tells[g] = Math.min(MOST_TELLS, tells[g] + 1);
            gone[g] = held(gone[g] - cost);
        }

        void serveByDraws() {
            if (count > 0) {
                int g = drawn() % count;
                if (drawn() % 100 < laws[SLIP]) {
                    holds[g] = drawn() % PARTS;
                }
            }
            serve();
        }

        private int drawn() {
            z = z * 1103515245 + 12345;
            return z >>> 16;
        }

        int toldBehind(int n) {
            for (int i = 0; i < n; i++) {
                serve();
            }
            return told;
        }

        int coursesUntilTelling(int g, int most) {
            int before = tells[g];
            // Who is drowned never tells again.
            for (int i = 1; i <= most && !isDrowned(g); i++) {
                serve();
                if (tells[g] > before) {
                    return i;
                }
            }
            return NONE;
        }

        int coursesUntilDrowned(int g, int most) {
            for (int i = 0; i <= most; i++) {
                if (isDrowned(g)) {
                    return i;
                }
                serve();
            }
            return NONE;
        }

        int coursesUntilWhole(int most) {
            int before = told / PARTS;
            for (int i = 1; i <= most; i++) {
                serve();
                if (told / PARTS > before) {
                    return i;
                }
            }
            return NONE;
        }

        int deepestAlive() {
            int deepest = 0;
            for (int g = 0; g < count; g++) {
                if (!isDrowned(g)) {
                    deepest = Math.max(deepest, gone[g]);
                }
            }
            return deepest;
        }

        int goneTogether() {
            int sum = 0;
            for (int g = 0; g < count; g++) {
                sum += gone[g];
            }
            return sum;
        }

        int tellers() {
            int many = 0;
            for (int g = 0; g < count; g++) {
                if (tells[g] > 0) {
                    many++;
                }
            }
            return many;
        }

        /** The pieces that the guests of a set hold. */
        int piecesOf(int set) {
            int pieces = 0;
            for (int g = 0; g < count; g++) {
                if ((set >> g & 1) == 1) {
                    pieces |= 1 << holds[g];
                }
            }
            return pieces;
        }

        /** The pieces of the parts that must still be told for TOLD to be v. */
        int piecesUntil(int v) {
            int pieces = 0;
            for (int i = 0; i < PARTS && told + i < v; i++) {
                pieces |= 1 << (told + i) % PARTS;
            }
            return pieces;
        }

        /** Those not drowned who hold one of the pieces. */
        int holdersOf(int pieces) {
            int set = 0;
            for (int g = 0; g < count; g++) {
                if (!isDrowned(g) && (pieces >> holds[g] & 1) == 1) {
                    set |= 1 << g;
                }
            }
            return set;
        }

        int gap() {
            int pieces = piecesOf(~drowned);
            for (int i = 0; i < PARTS; i++) {
                int part = (told + i) % PARTS;
                if ((pieces >> part & 1) == 0) {
                    return part;
                }
            }
            return PARTS;
        }
    }

    /** The tape, and the reading of what it tells: place is where the reading stands. */
    private static final class Tape {
        private static final int END = 0, NAME = 1, NUMBER = 2, OTHER = 3;

        final byte[] bytes = new byte[MOST_BYTES];
        int length;
        int place;
        private int after;
        private int sort;
        private int number;

        /** Whether the tape tells a feast; if not, place is its fault. */
        boolean readInto(Table table) {
            after = 0;
            // Each round takes a byte at least, or ends.
            for (int i = 0; i <= MOST_BYTES; i++) {
                step();
                if (sort == END) {
                    return true;
                }
                if (!readSentence(table)) {
                    return false;
                }
            }
            return false;
        }

        private boolean readSentence(Table table) {
            int kind = kindNamed();
            if (kind != NONE) {
                return table.count < MOST_GUESTS && readGuest(table, kind);
            }
            if (isName("told")) {
                if (!readNumber(MOST_TOLD_IN_TEXT)) {
                    return false;
                }
                table.told = number;
                return readStop();
            }
            int law = lawNamed();
            if (law == NONE || !readNumber(LAW_AT_MOST[law])) {
                return false;
            }
            table.laws[law] = number;
            return readStop();
        }

        private boolean readGuest(Table table, int kind) {
            step();
            if (!isName("with") || !readNumber(PARTS - 1)) {
                return false;
            }
            int g = table.seat(kind, number);
            step();
            if (isName("gone")) {
                if (!readNumber(MOST_GONE)) {
                    return false;
                }
                table.gone[g] = number;
                step();
            }
            if (isName("drowned")) {
                table.drown(g, true);
                step();
            }
            return isStop();
        }

        private boolean readStop() {
            step();
            return isStop();
        }

        private boolean isStop() {
            return sort == OTHER && bytes[place] == ';';
        }

        private boolean readNumber(int most) {
            step();
            if (sort != NUMBER || after - place > 3) {
                return false;
            }
            number = 0;
            for (int i = place; i < after; i++) {
                number = number * 10 + (bytes[i] - '0');
            }
            return number <= most;
        }

        /** Goes on to the next name, number or other byte, or to the end. */
        private void step() {
            place = after;
            while (place < length && bytes[place] == ' ') {
                place++;
            }
            sort = sortAt(place);
            after = place;
            if (sort == OTHER) {
                after++;
            } else if (sort != END) {
                while (after < length && sortAt(after) == sort) {
                    after++;
                }
            }
        }

        private int sortAt(int i) {
            if (i >= length) {
                return END;
            }
            if (bytes[i] >= 'a' && bytes[i] <= 'z') {
                return NAME;
            }
            return bytes[i] >= '0' && bytes[i] <= '9' ? NUMBER : OTHER;
        }

        private boolean isName(String name) {
            if (sort != NAME || after - place != name.length()) {
                return false;
            }
            for (int i = 0; i < name.length(); i++) {
                if (bytes[place + i] != name.charAt(i)) {
                    return false;
                }
            }
            return true;
        }

        private int kindNamed() {
            if (isName("guest")) {
                return GUEST;
            }
            if (isName("niece")) {
                return NIECE;
            }
            if (isName("actuary")) {
                return ACTUARY;
            }
            if (isName("heir")) {
                return HEIR;
            }
            if (isName("clerk")) {
                return CLERK;
            }
            return isName("girl") ? GIRL : NONE;
        }

        private int lawNamed() {
            if (isName("breath")) {
                return BREATH;
            }
            if (isName("salt")) {
                return SALT;
            }
            if (isName("depth")) {
                return DEPTH;
            }
            return isName("slip") ? SLIP : NONE;
        }
    }

    private static final class Rows {
        final int[] cells = new int[MOST_ROWS * ROW_WIDTH];
        int count;

        boolean has(int i, int what) {
            return within(i, 0, count - 1) && within(what, 0, ROW_WIDTH - 1);
        }
    }

    /** Items of every sort are held as longs, narrowed as they come: no new row need be made. */
    private static final class Sheet {
        final long[] items = new long[MOST_ITEMS];
        int sort = MISSING;
        int length;

        void become(int newSort, int n) {
            sort = newSort;
            length = n;
            Arrays.fill(items, 0L);
        }
    }

    /**
     * Of a row only the sort and the length are asked: they are held as they were, since
     * the row stays on the shelf when its sheet becomes another.
     */
    private static final class Shelf {
        int what = HOLDS_NOTHING;
        int number;
        int sort;
        int length;

        void holdGuest(int n) {
            what = HOLDS_GUEST;
            number = n;
        }

        void holdRow(Sheet row) {
            what = row.sort == MISSING ? HOLDS_NOTHING : HOLDS_ROW;
            sort = row.sort;
            length = row.length;
        }
    }

    /** Runs the bodies of acts for one thing, and keeps the trace of them. */
    private static final class Stage {
        final int[] bodies = new int[MOST_BODIES];
        int traced;
        private int kind;
        private int n;
        private int a;
        private boolean broken;

        int perform(int itsKind, int number, int piece, int act, int x) {
            traced = 0;
            broken = false;
            kind = itsKind;
            n = number;
            a = piece;
            int answer = own(act, x, 0);
            return broken ? PARTED_BY_0 : answer;
        }

        /** The act as the thing's own kind does it, whichever kind's body asks. */
        private int own(int act, int x, int depth) {
            return run(BODY_OF[kind * ACTS + act], x, depth);
        }

        private int run(int body, int x, int depth) {
            // Behind a parting by 0 no body begins any more.
            if (broken || depth > DEEPEST_BODY) {
                return 0;
            }
            begin(body);
            int deeper = depth + 1;
            switch (body) {
                case 10: return x * 2 + n;
                case 11: return own(LIFTS, x, deeper) - a * 3;
                case 12: return parted(x);
                case 13: return own(CUTS, x, deeper) ^ 210;
                case 20: return run(11, x, deeper) + 7;
                case 30: return run(10, x, deeper) * 3;
                case 31: return run(13, x, deeper) - own(PARTED, n, deeper);
                case 40: return 0 - run(30, x, deeper);
                case 41: return run(11, x, deeper) + own(LIFTS, a, deeper);
                case 50: return run(12, x * 2, deeper) ^ 3;
                case 51: return run(10, x, deeper) - a;
                case 60: return run(13, x, deeper) * 4;
                case 61: return run(12, x, deeper) + own(LIFTS, n, deeper);
                default: return 0;
            }
        }

        private void begin(int body) {
            if (traced < MOST_BODIES) {
                bodies[traced] = body;
                traced++;
            }
        }

        private int parted(int x) {
            if (a == n) {
                broken = true;
                return 0;
            }
            return x / (a - n);
        }
    }
}
