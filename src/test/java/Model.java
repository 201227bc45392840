import java.math.BigInteger;
import java.util.ArrayList;
import java.util.List;
import java.util.regex.Matcher;
import java.util.regex.Pattern;

/** The document written a second time, by plain search and real classes of kinds, to compare with. */
final class Model {
    static class Feast {
        int[] laws = {3, 2, 90, 20};
        int course;
        int told;
        int z = 1;
        List<Guest> guests = new ArrayList<>();

        Feast copy() {
            Feast f = new Feast();
            f.laws = laws.clone();
            f.course = course;
            f.told = told;
            f.z = z;
            for (Guest g : guests) {
                f.add(g.kind(), g.piece).like(g);
            }
            return f;
        }

        Guest add(int kind, int piece) {
            Guest g = Guest.of(kind);
            g.feast = this;
            g.n = guests.size();
            g.piece = piece;
            guests.add(g);
            return g;
        }

        void change(int i, int kind) {
            Guest old = guests.get(i);
            Guest g = Guest.of(kind);
            g.feast = this;
            g.n = i;
            g.piece = old.piece;
            g.like(old);
            guests.set(i, g);
        }

        void course() {
            for (Guest g : guests) {
                if (!g.drowned) {
                    g.gone = hold(g.gone + g.takes());
                }
            }
            breath:
            for (int i = 0; i < laws[0]; i++) {
                for (Guest g : guests) {
                    if (!g.drowned && g.piece == told % 8 && g.gone >= g.needs()) {
                        int costs = g.costs();
                        told = Math.min(99999, told + 1);
                        g.tells = Math.min(9999, g.tells + 1);
                        g.gone = hold(g.gone - costs);
                        continue breath;
                    }
                }
                break;
            }
            for (Guest g : guests) {
                g.drowned |= g.gone > laws[2];
            }
            course++;
        }

        Feast courses(int n) {
            for (int i = 0; i < n; i++) {
                course();
            }
            return this;
        }

        int draw() {
            z = z * 1103515245 + 12345;
            return z >>> 16;
        }

        void courseByDraws() {
            if (!guests.isEmpty()) {
                Guest g = guests.get(draw() % guests.size());
                if (draw() % 100 < laws[3]) {
                    g.piece = draw() % 8;
                }
            }
            course();
        }
    }

    static class Parted extends RuntimeException {
        private static final long serialVersionUID = 1L;
    }

    static class Guest {
        Feast feast;
        int n;
        int piece;
        int gone;
        int tells;
        boolean drowned;
        List<Integer> trace;

        static Guest of(int kind) {
            switch (kind) {
                case 0: return new Guest();
                case 1: return new Niece();
                case 2: return new Actuary();
                case 3: return new Heir();
                case 4: return new Clerk();
                default: return new Girl();
            }
        }

        void like(Guest g) {
            gone = g.gone;
            tells = g.tells;
            drowned = g.drowned;
        }

        int kind() { return 0; }
        int salt() { return feast.laws[1]; }
        int takes() { return 4; }
        int needs() { return 20; }
        int costs() { return 10; }

        int lifts(int x) { trace.add(10); return x * 2 + n; }
        int cuts(int x) { trace.add(11); return lifts(x) - piece * 3; }
        int parts(int x) {
            trace.add(12);
            if (piece == n) {
                throw new Parted();
            }
            return x / (piece - n);
        }
        int tellsAct(int x) { trace.add(13); return cuts(x) ^ 210; }
    }

    static class Niece extends Guest {
        int kind() { return 1; }
        int takes() { return super.takes() + salt(); }
        int needs() { return super.needs() - 5; }
        int cuts(int x) { trace.add(20); return super.cuts(x) + 7; }
    }

    static class Actuary extends Guest {
        int kind() { return 2; }
        int takes() { return super.takes() - 2; }
        int needs() { return super.needs() + 10; }
        int costs() { return super.costs() + 5; }
        int lifts(int x) { trace.add(30); return super.lifts(x) * 3; }
        int tellsAct(int x) { trace.add(31); return super.tellsAct(x) - parts(n); }
    }

    static class Heir extends Niece {
        int kind() { return 3; }
        int takes() { return super.takes() * 2; }
        int needs() { return super.needs() - salt(); }
        int costs() { return super.costs() / 2; }
        int parts(int x) { trace.add(50); return super.parts(x * 2) ^ 3; }
        int lifts(int x) { trace.add(51); return super.lifts(x) - piece; }
    }

    static class Clerk extends Actuary {
        int kind() { return 4; }
        int takes() { return super.takes() - salt(); }
        int needs() { return super.needs() - gone / 10; }
        int costs() { return super.costs() - salt(); }
        int lifts(int x) { trace.add(40); return 0 - super.lifts(x); }
        int cuts(int x) { trace.add(41); return super.cuts(x) + lifts(piece); }
    }

    static class Girl extends Guest {
        int kind() { return 5; }
        int takes() { return super.takes() + (piece == feast.told % 8 ? 5 : 0); }
        int needs() { return super.needs() / 2; }
        int costs() { return 0; }
        int tellsAct(int x) { trace.add(60); return super.tellsAct(x) * 4; }
        int parts(int x) { trace.add(61); return super.parts(x) + lifts(n); }
    }

    private static final String[] KINDS = {"guest", "niece", "actuary", "heir", "clerk", "girl"};
    private static final Class<?>[] CLASSES = {Guest.class, Niece.class, Actuary.class, Heir.class, Clerk.class, Girl.class};

    Feast now = new Feast();
    Feast kept;
    StringBuilder tape = new StringBuilder();
    List<int[]> rows = new ArrayList<>();
    Object[] sheets = new Object[4];
    Object[] shelves = new Object[4]; // an Integer for a guest's number, a row, or null
    List<Integer> trace = new ArrayList<>();

    static int hold(int v) {
        return v < 0 ? 0 : v > 99 ? 99 : v;
    }

    static boolean out(int v, int least, int most) {
        return v < least || v > most;
    }

    boolean no(int guest) {
        return out(guest, 0, now.guests.size() - 1);
    }

    int feed(long eight, int n) {
        if (out(n, 1, 8)) return -1;
        if (tape.length() + n > 200) return -2;
        for (int i = 0; i < n; i++) {
            tape.append((char) (eight & 255));
            eight >>= 8;
        }
        return tape.length();
    }

    /** A FAULT, thrown with its place. */
    static class Fault extends RuntimeException {
        private static final long serialVersionUID = 1L;
        final int place;
        Fault(int place) { this.place = place; }
    }

    private final List<String> words = new ArrayList<>();
    private final List<Integer> places = new ArrayList<>();
    private int at;

    int feast() {
        words.clear();
        places.clear();
        at = 0;
        Matcher m = Pattern.compile("[a-z]+|[0-9]+|[^ ]", Pattern.DOTALL).matcher(tape);
        while (m.find()) {
            words.add(m.group());
            places.add(m.start());
        }
        words.add("");
        places.add(tape.length());
        tape.setLength(0);
        Feast f = new Feast();
        f.z = now.z;
        try {
            while (!words.get(at).isEmpty()) {
                sentence(f);
            }
        } catch (Fault e) {
            return -100 - e.place;
        }
        now = f;
        rows.clear();
        return now.guests.size();
    }

    private Fault fault() {
        return new Fault(places.get(at));
    }

    private void sentence(Feast f) {
        String word = words.get(at);
        int kind = List.of(KINDS).indexOf(word);
        int law = List.of("breath", "salt", "depth", "slip").indexOf(word);
        if (kind >= 0) {
            if (f.guests.size() == 8) throw fault();
            at++;
            if (!took("with")) throw fault();
            Guest g = f.add(kind, number(7));
            if (took("gone")) g.gone = number(99);
            if (took("drowned")) g.drowned = true;
        } else if (law >= 0) {
            at++;
            f.laws[law] = number(law < 2 ? 9 : 99);
        } else if (took("told")) {
            f.told = number(999);
        } else {
            throw fault();
        }
        if (!took(";")) throw fault();
    }

    private boolean took(String word) {
        if (!words.get(at).equals(word)) return false;
        at++;
        return true;
    }

    private int number(int most) {
        String word = words.get(at);
        if (!word.matches("[0-9]{1,3}") || Integer.parseInt(word) > most) throw fault();
        at++;
        return Integer.parseInt(word);
    }

    int set(int law, int v) {
        if (out(law, 0, 3) || out(v, 0, law < 2 ? 9 : 99)) return -1;
        int was = now.laws[law];
        now.laws[law] = v;
        return was;
    }

    int lawOf(int law) {
        return out(law, 0, 3) ? -1 : now.laws[law];
    }

    int guest(int kind, int piece) {
        if (out(kind, 0, 5) || out(piece, 0, 7)) return -1;
        return now.guests.size() == 8 ? -2 : now.add(kind, piece).n;
    }

    int of(int guest, int what) {
        if (no(guest) || out(what, 0, 4)) return -1;
        Guest g = now.guests.get(guest);
        return new int[] {g.kind(), g.piece, g.gone, g.tells, g.drowned ? 1 : 0}[what];
    }

    int does(int guest, int what) {
        if (no(guest) || out(what, 0, 2)) return -1;
        Guest g = now.guests.get(guest);
        return 1000 + new int[] {g.takes(), g.needs(), g.costs()}[what];
    }

    int mind(int guest, int kind) {
        if (no(guest) || out(kind, 0, 5)) return -1;
        int was = now.guests.get(guest).kind();
        now.change(guest, kind);
        return was;
    }

    int give(int guest, int piece) {
        if (no(guest) || out(piece, 0, 7)) return -1;
        int was = now.guests.get(guest).piece;
        now.guests.get(guest).piece = piece;
        return was;
    }

    int sink(int guest, int what, int v) {
        if (no(guest) || out(what, 0, 1) || out(v, 0, what == 0 ? 99 : 1)) return -1;
        int was = of(guest, what == 0 ? 2 : 4);
        if (what == 0) now.guests.get(guest).gone = v;
        else now.guests.get(guest).drowned = v == 1;
        return was;
    }

    int courses(int n) {
        return out(n, 1, 60) ? -1 : now.courses(n).told;
    }

    int seed(int v) {
        int was = now.z;
        now.z = v;
        return was;
    }

    int course() {
        now.courseByDraws();
        return now.told;
    }

    int luck(int n) {
        if (out(n, 1, 30)) return -1;
        int z = now.z;
        int many = 0;
        for (int i = 0; i < n; i++) {
            Feast f = now.copy();
            f.z = z;
            f.courseByDraws();
            z = f.z;
            if (f.told > now.copy().courses(1).told) many++;
        }
        return many;
    }

    int gap() {
        for (int i = 0; i < 8; i++) {
            int part = (now.told + i) % 8;
            if (now.guests.stream().noneMatch(g -> !g.drowned && g.piece == part)) return part;
        }
        return 8;
    }

    int state(int what) {
        switch (what) {
            case 0: return now.course;
            case 1: return now.told;
            case 2: return now.told % 8;
            case 3: return now.guests.stream().mapToInt(g -> g.drowned ? 1 << g.n : 0).sum();
            case 4: return now.guests.stream().mapToInt(g -> g.gone).sum();
            case 5: return gap();
            default: return -1;
        }
    }

    int deep(int guest, int n) {
        return no(guest) || out(n, 0, 60) ? -1 : now.copy().courses(n).guests.get(guest).gone;
    }

    private static int speaks(Feast from, int guest, int most) {
        for (int n = 0; n <= most; n++) {
            if (from.copy().courses(n).guests.get(guest).tells > from.guests.get(guest).tells) return n;
        }
        return -3;
    }

    int speaks(int guest) {
        return no(guest) ? -1 : speaks(now, guest, 60);
    }

    int sinks(int guest) {
        if (no(guest)) return -1;
        for (int n = 0; n <= 60; n++) {
            if (now.copy().courses(n).guests.get(guest).drowned) return n;
        }
        return -3;
    }

    int whole() {
        for (int n = 0; n <= 60; n++) {
            if (now.copy().courses(n).told / 8 > now.told / 8) return n;
        }
        return -3;
    }

    int tale(int n) {
        return out(n, 0, 60) ? -1 : now.copy().courses(n).told;
    }

    int pieceFor(int guest, int n) {
        if (no(guest) || out(n, 1, 40)) return -1;
        int best = 0;
        int[] tales = new int[8];
        for (int p = 0; p < 8; p++) {
            Feast f = now.copy();
            f.guests.get(guest).piece = p;
            tales[p] = f.courses(n).told;
            if (tales[p] > tales[best]) best = p;
        }
        return best;
    }

    int kindFor(int guest, int n) {
        if (no(guest) || out(n, 1, 40)) return -1;
        int best = 0;
        int[] tales = new int[6];
        for (int k = 0; k < 6; k++) {
            Feast f = now.copy();
            f.change(guest, k);
            tales[k] = f.courses(n).told;
            if (tales[k] > tales[best]) best = k;
        }
        return best;
    }

    int goneFor(int guest, int n) {
        if (no(guest) || out(n, 1, 40)) return -1;
        for (int gone = 0; gone < 100; gone++) {
            Feast f = now.copy();
            f.guests.get(guest).gone = gone;
            f.courses(n);
            if (f.guests.get(guest).tells > now.guests.get(guest).tells) return gone;
        }
        return -3;
    }

    int depthFor(int n) {
        if (out(n, 1, 40)) return -1;
        for (int depth = 0; depth < 100; depth++) {
            Feast f = now.copy();
            f.laws[2] = depth;
            f.courses(n);
            if (f.guests.stream().noneMatch(g -> g.drowned && !now.guests.get(g.n).drowned)) return depth;
        }
        return -3;
    }

    int strangersFor(int n, int v) {
        if (out(n, 1, 20) || out(v, 0, 99999)) return -1;
        int best = -3;
        for (int set = 0; set < 1 << now.guests.size(); set++) {
            Feast f = now.copy();
            for (Guest g : f.guests) {
                if ((set >> g.n & 1) == 0) g.drowned = true;
            }
            boolean fewer = best == -3 || Integer.bitCount(set) < Integer.bitCount(best);
            if (fewer && f.courses(n).told >= v) best = set;
        }
        return best;
    }

    private static int length(Object row) {
        return java.lang.reflect.Array.getLength(row);
    }

    private static long number(Object row, int i) {
        return ((Number) java.lang.reflect.Array.get(row, i)).longValue();
    }

    private static int sort(Object row) {
        return row instanceof byte[] ? 0 : row instanceof short[] ? 1 : row instanceof int[] ? 2 : 3;
    }

    int fits(int sheet, int guest, int what) {
        if (out(sheet, 0, 3) || no(guest) || out(what, 0, 1)) return -1;
        Object row = sheets[sheet];
        if (row == null) return -11;
        List<Integer> fit = new ArrayList<>();
        pieces:
        for (int p = 0; p < 8; p++) {
            for (int i = 0; i < length(row); i++) {
                Feast f = now.copy();
                f.guests.get(guest).piece = p;
                long told = number(row, i);
                if (told != -1 && f.courses(i + 1).told != told) continue pieces;
            }
            fit.add(p);
        }
        return what == 0 ? fit.size() : fit.isEmpty() ? -3 : fit.get(0);
    }

    private static long part(BigInteger above, BigInteger below, int part) {
        BigInteger common = above.gcd(below);
        return (part == 0 ? above : below).divide(common).longValueExact();
    }

    long odds(int n, int k, int part) {
        if (out(n, 0, 8) || out(k, 0, n) || out(part, 0, 1)) return -1;
        // by all sets of feasts that have a slip
        BigInteger sum = BigInteger.ZERO;
        for (int set = 0; set < 1 << n; set++) {
            if (Integer.bitCount(set) == k) {
                sum = sum.add(BigInteger.valueOf(now.laws[3]).pow(k).multiply(BigInteger.valueOf(100 - now.laws[3]).pow(n - k)));
            }
        }
        return part(sum, BigInteger.valueOf(100).pow(n), part);
    }

    long hope(int n, int part) {
        if (out(n, 0, 99) || out(part, 0, 1)) return -1;
        return part(BigInteger.valueOf((long) n * now.laws[3]), BigInteger.valueOf(100), part);
    }

    private int[] rowOf(int guest, int n) {
        Feast f = now.copy().courses(n);
        Guest g = f.guests.get(guest);
        return new int[] {g.gone, g.tells, f.told};
    }

    int prove(int guest, int n) {
        if (no(guest) || out(n, 1, 10)) return -1;
        rows.clear();
        for (int i = 1; i <= n; i++) {
            rows.add(rowOf(guest, i));
        }
        return n;
    }

    int row(int i, int what) {
        return out(i, 0, rows.size() - 1) || out(what, 0, 2) ? -9 : rows.get(i)[what];
    }

    int alterRow(int i, int what, int v) {
        if (out(i, 0, rows.size() - 1) || out(what, 0, 2)) return -9;
        int was = rows.get(i)[what];
        rows.get(i)[what] = v;
        return was;
    }

    int judge(int guest) {
        if (no(guest)) return -1;
        for (int i = 0; i < rows.size(); i++) {
            if (!java.util.Arrays.equals(rows.get(i), rowOf(guest, i + 1))) return i + 1;
        }
        return 0;
    }

    int minds(int sheet, int i, int guest, int n) {
        if (out(sheet, 0, 3) || no(guest) || out(n, 0, 8) || guest + n > now.guests.size()) return -1;
        Object row = sheets[sheet];
        if (row == null) return -11;
        if (!(row instanceof byte[])) return -13;
        byte[] bytes = (byte[]) row;
        if (out(i, 0, bytes.length) || i + n > bytes.length) return -12;
        for (int k = 0; k < n; k++) {
            now.guests.get(guest + k).gone = hold(bytes[i + k]);
        }
        return n;
    }

    int sheet(int sheet, int sort, int n) {
        if (out(sheet, 0, 3) || out(sort, -1, 3) || sort != -1 && n > 40) return -1;
        if (sort != -1 && n < 0) return -14;
        sheets[sheet] = sort == -1 ? null : sort == 0 ? new byte[n] : sort == 1 ? new short[n] : sort == 2 ? new int[n] : new long[n];
        return 1;
    }

    int put(int sheet, int i, int v) {
        if (out(sheet, 0, 3)) return -1;
        Object row = sheets[sheet];
        if (row == null) return -11;
        if (out(i, 0, length(row) - 1)) return -12;
        if (row instanceof byte[]) ((byte[]) row)[i] = (byte) v;
        else if (row instanceof short[]) ((short[]) row)[i] = (short) v;
        else if (row instanceof int[]) ((int[]) row)[i] = v;
        else ((long[]) row)[i] = v;
        return 1;
    }

    int item(int sheet, int sort, int i) {
        if (out(sheet, 0, 3) || out(sort, 0, 3)) return -1;
        Object row = sheets[sheet];
        if (row == null) return -11;
        if (sort(row) != sort) return -13;
        return out(i, 0, length(row) - 1) ? -12 : (int) number(row, i);
    }

    int shelf(int shelf, int what, int n) {
        if (out(shelf, 0, 3) || out(what, 0, 2)) return -1;
        if (what == 0 && no(n) || what == 1 && out(n, 0, 3)) return -1;
        shelves[shelf] = what == 0 ? Integer.valueOf(n) : what == 1 ? sheets[n] : null;
        return 1;
    }

    private Object on(int shelf) {
        Object thing = shelves[shelf];
        if (!(thing instanceof Integer)) return thing;
        return no((Integer) thing) ? null : now.guests.get((Integer) thing);
    }

    int taken(int shelf, int as) {
        if (out(shelf, 0, 3) || out(as, 0, 5) && out(as, 10, 13)) return -1;
        Object thing = on(shelf);
        if (thing == null) return -11;
        if (thing instanceof Guest) {
            return as < 6 && CLASSES[as].isInstance(thing) ? ((Guest) thing).n : -13;
        }
        return as >= 10 && sort(thing) == as - 10 ? length(thing) : -13;
    }

    int act(int shelf, int act, int x) {
        trace = new ArrayList<>();
        if (out(shelf, 0, 3) || out(act, 0, 3) || !(on(shelf) instanceof Guest)) return 0;
        Guest g = (Guest) on(shelf);
        g.trace = trace;
        try {
            switch (act) {
                case 0: return g.lifts(x);
                case 1: return g.cuts(x);
                case 2: return g.parts(x);
                default: return g.tellsAct(x);
            }
        } catch (Parted e) {
            return -15;
        }
    }

    int trace(int i) {
        return out(i, 0, Math.min(30, trace.size()) - 1) ? -3 : trace.get(i);
    }

    int many(int what) {
        switch (what) {
            case 0: return now.guests.size();
            case 1: return (int) now.guests.stream().filter(g -> g.drowned).count();
            case 2: return (int) now.guests.stream().filter(g -> g.tells > 0).count();
            case 3: return (int) now.guests.stream().filter(g -> !g.drowned).mapToInt(g -> g.piece).distinct().count();
            case 4: return rows.size();
            case 5: return tape.length();
            case 6: return Math.min(30, trace.size());
            default: return -1;
        }
    }

    int keep() {
        kept = now.copy();
        return 1;
    }

    int again() {
        if (kept == null) return -3;
        now = kept.copy();
        return now.guests.size();
    }
}
