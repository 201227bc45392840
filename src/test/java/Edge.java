import java.util.ArrayList;
import java.util.List;
import java.util.function.Supplier;
import java.util.function.ToLongFunction;

/** What the tests of edges share: numbers just beyond, tables to refuse calls on, and all that can be seen of one. */
final class Edge {
    static final int LEAST = Integer.MIN_VALUE, MOST = Integer.MAX_VALUE;
    static final int BAD = -1, FULL = -2, NONE = -3, NO_ROW = -9;
    static final int NOTHING = -11, OUTSIDE = -12, OTHER_SORT = -13, BELOW_0 = -14, PARTED_BY_0 = -15;
    static final int GUEST = 0, NIECE = 1, ACTUARY = 2, HEIR = 3, CLERK = 4, GIRL = 5;
    static final int BREATH = 0, SALT = 1, DEPTH = 2, SLIP = 3;

    private Edge() {
    }

    /** Just beyond, far beyond, and beyond by as much as a narrowing to bytes or shorts would lose. */
    static int[] beyond(int least, int most) {
        return new int[] {least - 1, most + 1, least - 256, least + 65536, LEAST, MOST};
    }

    static KinCutlery feasted(String text) {
        KinCutlery x = new KinCutlery();
        Due.feastOn(x, text);
        return x;
    }

    /** Eight girls with all the pieces, as far gone as can be, where nobody is ever drowned and nothing costs. */
    static KinCutlery girls(int breath) {
        KinCutlery x = feasted("girl with 0 gone 99;girl with 1 gone 99;girl with 2 gone 99;girl with 3 gone 99;"
            + "girl with 4 gone 99;girl with 5 gone 99;girl with 6 gone 99;girl with 7 gone 99;");
        x.set(DEPTH, 99);
        x.set(BREATH, breath);
        return x;
    }

    /** Three guests, numbers 0 to 2, the second DROWNED; nothing is as at first, and what is kept is another feast. */
    static KinCutlery few() {
        KinCutlery x = feasted("girl with 5 gone 60;heir with 7 gone 33 drowned;told 21;breath 2;salt 7;depth 88;slip 13;");
        x.seed(31);
        x.course();
        x.keep();
        x.guest(CLERK, 6);
        x.sink(2, 0, 50);
        x.set(SLIP, 14);
        x.courses(1);
        furnish(x, 2);
        return x;
    }

    /** As few(), with five more: eight in all. */
    static KinCutlery full() {
        KinCutlery x = few();
        for (int kind = 0; kind < 5; kind++) {
            x.guest(kind, kind);
            x.sink(3 + kind, 0, 17 * kind);
        }
        x.sink(7, 1, 1);
        return x;
    }

    /** Nobody, yet ROWS, SHEETS, SHELVES, a TRACE, a TAPE. */
    static KinCutlery nobody() {
        KinCutlery x = feasted("told 12;salt 5;slip 3;");
        x.courses(2);
        x.seed(-9);
        x.keep();
        x.guest(GIRL, 4);
        furnish(x, 0);
        x.again();
        return x;
    }

    /** SHEET 0 has bytes, 1 shorts, 3 longs, 2 is missing; SHELF 0 has one of the GUESTS, 1 a row, 2 nothing, 3 another. */
    private static void furnish(KinCutlery x, int other) {
        x.prove(0, 4);
        x.alterRow(1, 2, -77);
        x.sheet(0, 0, 5);
        x.sheet(1, 1, 3);
        x.sheet(3, 3, 2);
        for (int i = 0; i < 5; i++) {
            x.put(0, i, 20 * i + 1);
        }
        x.put(1, 2, 300);
        x.put(3, 1, LEAST);
        x.shelf(0, 0, 0);
        x.shelf(1, 1, 0);
        x.shelf(3, 0, other);
        x.act(3, 3, 9);
        Due.feedText(x, "niece with 2 gone 9;salt 4;");
    }

    /** All that can be seen of one, THE TAPE's bytes and what is kept, too: it isn't the same behind it. */
    static List<String> seen(KinCutlery x) {
        List<String> all = seenNow(x);
        all.add("many(5) = " + x.many(5));
        all.add("feast() = " + x.feast());
        addTable(all, x);
        addKept(all, x);
        return all;
    }

    /** As seen(), without THE TAPE. */
    static List<String> seenButTape(KinCutlery x) {
        List<String> all = seenNow(x);
        addKept(all, x);
        return all;
    }

    private static List<String> seenNow(KinCutlery x) {
        List<String> all = new ArrayList<>();
        addTable(all, x);
        for (int i = 0; i < 11; i++) {
            for (int what = 0; what < 3; what++) {
                all.add("row(" + i + ", " + what + ") = " + x.row(i, what));
            }
        }
        for (int s = 0; s < 4; s++) {
            addSheet(all, x, s);
            for (int as = 0; as < 14; as = as == 5 ? 10 : as + 1) {
                all.add("taken(" + s + ", " + as + ") = " + x.taken(s, as));
            }
        }
        for (int i = 0; i < 12; i++) {
            all.add("trace(" + i + ") = " + x.trace(i));
        }
        all.add("many(4) = " + x.many(4));
        all.add("many(6) = " + x.many(6));
        all.add("z = " + x.seed(0));
        return all;
    }

    private static void addKept(List<String> all, KinCutlery x) {
        all.add("again() = " + x.again());
        addTable(all, x);
        all.add("kept z = " + x.seed(0));
    }

    private static void addTable(List<String> all, KinCutlery x) {
        for (int g = 0; g < 9; g++) {
            for (int what = 0; what < 5; what++) {
                all.add("of(" + g + ", " + what + ") = " + x.of(g, what));
            }
        }
        for (int law = 0; law < 4; law++) {
            all.add("lawOf(" + law + ") = " + x.lawOf(law));
        }
        for (int what = 0; what < 3; what++) {
            all.add("state(" + what + ") = " + x.state(what));
        }
        all.add("many(0) = " + x.many(0));
    }

    private static void addSheet(List<String> all, KinCutlery x, int s) {
        for (int sort = 0; sort < 4; sort++) {
            int first = x.item(s, sort, 0);
            all.add("item(" + s + ", " + sort + ", 0) = " + first);
            for (int i = 1; i < 6 && first > OUTSIDE; i++) {
                all.add("item(" + s + ", " + sort + ", " + i + ") = " + x.item(s, sort, i));
            }
        }
    }

    /** The call, a refused one or a question, is answered by want, and all is as on a twin that wasn't called. */
    static void unchanged(Due t, Supplier<KinCutlery> table, String call, long want, ToLongFunction<KinCutlery> asked) {
        KinCutlery x = table.get();
        t.due(call, asked.applyAsLong(x), want);
        same(t, call, seen(x), seen(table.get()));
    }

    /** A call with one number in it that is looked at. */
    interface Asked {
        long of(KinCutlery x, int v);
    }

    /** Each number beyond least to most is BAD, and changes nothing. */
    static void badBeyond(Due t, Supplier<KinCutlery> table, String call, int least, int most, Asked asked) {
        for (int v : beyond(least, most)) {
            unchanged(t, table, call + " by " + v, BAD, x -> asked.of(x, v));
        }
    }

    /** One that there isn't is BAD, and changes nothing: at a table of three, of eight, and of nobody. */
    static void badForNobody(Due t, String call, Asked asked) {
        badBeyond(t, Edge::few, call, 0, 2, asked);
        badBeyond(t, Edge::full, call, 0, 7, asked);
        unchanged(t, Edge::nobody, call + " of nobody", BAD, x -> asked.of(x, 0));
    }

    static void same(Due t, String call, List<String> got, List<String> want) {
        t.due(call + ": how much can be seen behind it", got.size(), want.size());
        for (int i = 0; i < Math.min(got.size(), want.size()); i++) {
            t.due(call + " changed something: " + got.get(i) + ", was " + want.get(i), got.get(i).equals(want.get(i)) ? 1 : 0, 1);
        }
    }
}
