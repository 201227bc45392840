/** Edges of promise 36: put. */
final class Promise36 {
    private static final int[] INTS = {0, 1, -1, 127, 128, -128, -129, 255, 256, 32767, 32768, -32768, -32769, 65535, 65536,
        Edge.LEAST, Edge.MOST};

    private Promise36() {
    }

    /** "narrowed to its sort" */
    static void narrowed(Due t) {
        int[] bytes = {0, 1, -1, 127, -128, -128, 127, -1, 0, -1, 0, 0, -1, -1, 0, 0, -1};
        int[] shorts = {0, 1, -1, 127, 128, -128, -129, 255, 256, 32767, -32768, -32768, 32767, -1, 0, 0, -1};
        int[][] want = {bytes, shorts, INTS, INTS};
        for (int sort = 0; sort < 4; sort++) {
            KinCutlery x = new KinCutlery();
            x.sheet(2, sort, 1);
            for (int k = 0; k < INTS.length; k++) {
                t.due("put(2, 0, " + INTS[k] + ")", x.put(2, 0, INTS[k]), 1);
                t.due("item of sort " + sort, x.item(2, sort, 0), want[sort][k]);
            }
        }
    }

    /** Item 0 and the last of forty: each alone. */
    static void theFirstAndTheLast(Due t) {
        for (int sort = 0; sort < 4; sort++) {
            KinCutlery x = new KinCutlery();
            x.sheet(3, sort, 40);
            t.due("put(3, 0, 7)", x.put(3, 0, 7), 1);
            t.due("put(3, 39, 8)", x.put(3, 39, 8), 1);
            for (int i = 0; i < 40; i++) {
                t.due("item " + i, x.item(3, sort, i), i == 0 ? 7 : i == 39 ? 8 : 0);
            }
        }
    }

    static void noSuchSheetIsBad(Due t) {
        for (int s : Edge.beyond(0, 3)) {
            Edge.unchanged(t, Edge::few, "put(" + s + ", 0, 1)", Edge.BAD, x -> x.put(s, 0, 1));
            Edge.unchanged(t, Edge::few, "put(" + s + ", -1, 1)", Edge.BAD, x -> x.put(s, -1, 1));
        }
    }

    /** "-11" before "-12", too. */
    static void missingSheet(Due t) {
        int[] any = {0, -1, 40, Edge.LEAST, Edge.MOST};
        for (int i : any) {
            Edge.unchanged(t, Edge::few, "put(2, " + i + ", 1)", Edge.NOTHING, x -> x.put(2, i, 1));
        }
    }

    /** "-12": of five, of none, of forty. */
    static void outside(Due t) {
        for (int i : Edge.beyond(0, 4)) {
            Edge.unchanged(t, Edge::few, "put(0, " + i + ", 1)", Edge.OUTSIDE, x -> x.put(0, i, 1));
        }
        for (int sort = 0; sort < 4; sort++) {
            KinCutlery x = new KinCutlery();
            x.sheet(0, sort, 0);
            t.due("of none", x.put(0, 0, 1), Edge.OUTSIDE);
            x.sheet(0, sort, 40);
            t.due("of forty", x.put(0, 40, 1), Edge.OUTSIDE);
        }
    }

    /** An item put outside isn't there when the SHEET is longer later. */
    static void nothingIsLeftForLater(Due t) {
        KinCutlery x = new KinCutlery();
        x.sheet(0, 2, 3);
        x.put(0, 3, 9);
        x.sheet(0, 2, 4);
        t.due("item 3", x.item(0, 2, 3), 0);
    }
}
