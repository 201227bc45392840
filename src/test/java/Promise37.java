/** Edges of promise 37: item. */
final class Promise37 {
    private Promise37() {
    }

    /** "(An item may be as low as these, too.)", and as low and as great as ints are. */
    static void asLowAsRefusals(Due t) {
        int[] low = {-1, -2, -3, -11, -12, -13, -14, -15};
        for (int sort = 0; sort < 4; sort++) {
            KinCutlery x = new KinCutlery();
            x.sheet(0, sort, low.length);
            for (int i = 0; i < low.length; i++) {
                x.put(0, i, low[i]);
                t.due("item(0, " + sort + ", " + i + ")", x.item(0, sort, i), low[i]);
            }
        }
    }

    /** "of longs the lowest 32 bits" */
    static void lowestBitsOfLongs(Due t) {
        int[] ints = {Edge.LEAST, Edge.MOST, -1, 0, 1 << 30};
        KinCutlery x = new KinCutlery();
        x.sheet(1, 3, 5);
        for (int i = 0; i < 5; i++) {
            x.put(1, i, ints[i]);
        }
        for (int i = 0; i < 5; i++) {
            t.due("item(1, 3, " + i + ")", x.item(1, 3, i), ints[i]);
        }
    }

    static void noSuchSheetIsBad(Due t) {
        Edge.badBeyond(t, Edge::few, "item(.., 0, 0)", 0, 3, (x, s) -> x.item(s, 0, 0));
    }

    /** "a sort (0 to 3 ..)": -1 is none here. */
    static void noSuchSortIsBad(Due t) {
        for (int sort : Edge.beyond(0, 3)) {
            Edge.unchanged(t, Edge::few, "item(0, " + sort + ", 0)", Edge.BAD, x -> x.item(0, sort, 0));
            Edge.unchanged(t, Edge::few, "item(2, " + sort + ", 0)", Edge.BAD, x -> x.item(2, sort, 0));
        }
    }

    /** "-11" */
    static void missingSheet(Due t) {
        for (int k = 0; k < 4; k++) {
            int sort = k;
            Edge.unchanged(t, Edge::few, "item(2, " + sort + ", 0)", Edge.NOTHING, x -> x.item(2, sort, 0));
            Edge.unchanged(t, Edge::few, "item(2, " + sort + ", -1)", Edge.NOTHING, x -> x.item(2, sort, -1));
        }
    }

    /** "-13": each sort for each other. */
    static void anotherSort(Due t) {
        for (int sort = 0; sort < 4; sort++) {
            KinCutlery x = new KinCutlery();
            x.sheet(0, sort, 2);
            for (int as = 0; as < 4; as++) {
                t.due("sort " + sort + " for " + as, x.item(0, as, 1), as == sort ? 0 : Edge.OTHER_SORT);
            }
        }
    }

    /** "-12": of five, of none, of forty. */
    static void outside(Due t) {
        for (int i : Edge.beyond(0, 4)) {
            Edge.unchanged(t, Edge::few, "item(0, 0, " + i + ")", Edge.OUTSIDE, x -> x.item(0, 0, i));
        }
        for (int sort = 0; sort < 4; sort++) {
            KinCutlery x = new KinCutlery();
            x.sheet(0, sort, 0);
            t.due("of none", x.item(0, sort, 0), Edge.OUTSIDE);
            x.sheet(0, sort, 40);
            t.due("the last of forty", x.item(0, sort, 39), 0);
            t.due("behind forty", x.item(0, sort, 40), Edge.OUTSIDE);
        }
    }

    /** "of several the first named": BAD, -11, -13, -12. */
    static void theFirstNamed(Due t) {
        Edge.unchanged(t, Edge::few, "BAD before -11", Edge.BAD, x -> x.item(2, 4, 9));
        Edge.unchanged(t, Edge::few, "BAD before -13", Edge.BAD, x -> x.item(0, -1, 9));
        Edge.unchanged(t, Edge::few, "-13 before -12", Edge.OTHER_SORT, x -> x.item(0, 1, 9));
        Edge.unchanged(t, Edge::few, "-13 before -12", Edge.OTHER_SORT, x -> x.item(3, 0, -1));
    }
}
