/** Edges of promise 35: sheet. */
final class Promise35 {
    private Promise35() {
    }

    /** "SHEETS 0 to 3 are rows of bytes (sort 0), shorts (1), ints (2) or longs (3), 40 at most": none and forty. */
    static void noneToForty(Due t) {
        int[] many = {0, 1, 39, 40};
        for (int s = 0; s < 4; s++) {
            for (int sort = 0; sort < 4; sort++) {
                for (int n : many) {
                    KinCutlery x = new KinCutlery();
                    t.due("sheet(" + s + ", " + sort + ", " + n + ")", x.sheet(s, sort, n), 1);
                    t.due("the last but", n == 0 ? 0 : x.item(s, sort, n - 1), 0);
                    t.due("behind the last", x.item(s, sort, n), Edge.OUTSIDE);
                    t.due("another sort", x.item(s, (sort + 1) % 4, 0), Edge.OTHER_SORT);
                    t.due("another SHEET", x.item((s + 1) % 4, sort, 0), Edge.NOTHING);
                }
            }
        }
    }

    /** "all 0": also where there were items before. */
    static void allZero(Due t) {
        for (int sort = 0; sort < 4; sort++) {
            KinCutlery x = new KinCutlery();
            x.sheet(1, 3, 40);
            for (int i = 0; i < 40; i++) {
                x.put(1, i, -5);
            }
            x.sheet(1, sort, 20);
            x.sheet(1, sort, 40);
            for (int i = 0; i < 40; i++) {
                t.due("item " + i + " of sort " + sort, x.item(1, sort, i), 0);
            }
        }
    }

    /** "or missing (sort -1; n counts nothing then)" */
    static void missing(Due t) {
        int[] any = {0, 1, 40, 41, -1, Edge.LEAST, Edge.MOST};
        for (int n : any) {
            KinCutlery x = Edge.few();
            t.due("sheet(0, -1, " + n + ")", x.sheet(0, -1, n), 1);
            t.due("item", x.item(0, 0, 0), Edge.NOTHING);
            t.due("put", x.put(0, 0, 1), Edge.NOTHING);
            Edge.unchanged(t, Edge::few, "sheet(2, -1, " + n + "), missing before", 1, y -> y.sheet(2, -1, n));
        }
    }

    static void noSuchSheetIsBad(Due t) {
        for (int s : Edge.beyond(0, 3)) {
            Edge.unchanged(t, Edge::few, "sheet(" + s + ", 0, 1)", Edge.BAD, x -> x.sheet(s, 0, 1));
            Edge.unchanged(t, Edge::few, "sheet(" + s + ", -1, 0)", Edge.BAD, x -> x.sheet(s, -1, 0));
        }
    }

    static void noSuchSortIsBad(Due t) {
        Edge.badBeyond(t, Edge::few, "sheet(0, .., 1)", -1, 3, (x, sort) -> x.sheet(0, sort, 1));
    }

    /** "n above 40" */
    static void aboveFortyIsBad(Due t) {
        int[] above = {41, 42, 256, Edge.MOST};
        for (int n : above) {
            for (int k = 0; k < 4; k++) {
                int sort = k;
                Edge.unchanged(t, Edge::few, "sheet(0, " + sort + ", " + n + ")", Edge.BAD, x -> x.sheet(0, sort, n));
            }
        }
    }

    /** "-14 a size below 0" */
    static void below0(Due t) {
        int[] below = {-1, -2, -256, Edge.LEAST};
        for (int n : below) {
            for (int k = 0; k < 4; k++) {
                int sort = k;
                Edge.unchanged(t, Edge::few, "sheet(0, " + sort + ", " + n + ")", Edge.BELOW_0, x -> x.sheet(0, sort, n));
            }
        }
    }

    /** "of several the first named": BAD before -14. */
    static void badBeforeBelow0(Due t) {
        Edge.unchanged(t, Edge::few, "no SHEET -1", Edge.BAD, x -> x.sheet(-1, 0, -1));
        Edge.unchanged(t, Edge::few, "no SHEET 4", Edge.BAD, x -> x.sheet(4, 3, Edge.LEAST));
        Edge.unchanged(t, Edge::few, "no sort -2", Edge.BAD, x -> x.sheet(0, -2, -1));
        Edge.unchanged(t, Edge::few, "no sort 4", Edge.BAD, x -> x.sheet(0, 4, Edge.LEAST));
    }
}
