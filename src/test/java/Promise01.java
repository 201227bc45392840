/** Edges of promise 1: a new object. */
final class Promise01 {
    private Promise01() {
    }

    /** "No GUESTS" */
    static void noGuests(Due t) {
        KinCutlery x = new KinCutlery();
        t.due("many(0)", x.many(0), 0);
        t.due("of(0, 0)", x.of(0, 0), Edge.BAD);
        t.due("of(-1, 0)", x.of(-1, 0), Edge.BAD);
        t.due("none DROWNED", x.state(3), 0);
        t.due("GONE together", x.state(4), 0);
        t.due("GAP", x.state(5), 0);
    }

    /** "nothing is kept" */
    static void nothingIsKept(Due t) {
        Edge.unchanged(t, KinCutlery::new, "again()", Edge.NONE, x -> x.again());
    }

    /** "0 BREATH (.. 3 at first), 1 SALT (.. 2), 2 DEPTH (.. 90), 3 SLIP (.. 20)" */
    static void lawsAtFirst(Due t) {
        KinCutlery x = new KinCutlery();
        int[] first = {3, 2, 90, 20};
        for (int law = 0; law < 4; law++) {
            t.due("lawOf(" + law + ")", x.lawOf(law), first[law]);
        }
    }

    /** "COURSE (0 at first). TOLD .. (0 at first ..)" */
    static void courseToldAndNextAtFirst(Due t) {
        KinCutlery x = new KinCutlery();
        for (int what = 0; what < 3; what++) {
            t.due("state(" + what + ")", x.state(what), 0);
        }
    }

    /** "z (an int; 1 at first)" */
    static void zAtFirst(Due t) {
        t.due("seed(7)", new KinCutlery().seed(7), 1);
    }

    /** "SHEETS 0 to 3 .. missing (at first)" */
    static void sheetsAtFirst(Due t) {
        KinCutlery x = new KinCutlery();
        for (int s = 0; s < 4; s++) {
            t.due("put(" + s + ", 0, 0)", x.put(s, 0, 0), Edge.NOTHING);
            for (int sort = 0; sort < 4; sort++) {
                t.due("item(" + s + ", " + sort + ", 0)", x.item(s, sort, 0), Edge.NOTHING);
            }
        }
    }

    /** "SHELVES 0 to 3 hold .. nothing (at first)" */
    static void shelvesAtFirst(Due t) {
        KinCutlery x = new KinCutlery();
        for (int s = 0; s < 4; s++) {
            for (int as = 0; as < 14; as = as == 5 ? 10 : as + 1) {
                t.due("taken(" + s + ", " + as + ")", x.taken(s, as), Edge.NOTHING);
            }
            t.due("act(" + s + ", 0, 1)", x.act(s, 0, 1), 0);
        }
    }

    static void noRowsNoTraceNoBytes(Due t) {
        KinCutlery x = new KinCutlery();
        t.due("row(0, 0)", x.row(0, 0), Edge.NO_ROW);
        t.due("trace(0)", x.trace(0), Edge.NONE);
        for (int what = 0; what < 7; what++) {
            t.due("many(" + what + ")", x.many(what), 0);
        }
    }

    /** A new object has nothing of those before it, nor do these change by it. */
    static void objectsAreApart(Due t) {
        KinCutlery full = Edge.full();
        KinCutlery x = new KinCutlery();
        x.feed(-1, 8);
        x.set(0, 9);
        x.sheet(0, 3, 40);
        x.seed(5);
        Edge.same(t, "another object", Edge.seen(full), Edge.seen(Edge.full()));
        t.due("many(0)", new KinCutlery().many(0), 0);
        t.due("lawOf(0)", new KinCutlery().lawOf(0), 3);
        t.due("again()", new KinCutlery().again(), Edge.NONE);
    }
}
