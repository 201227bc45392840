/** Edges of promise 39: taken. */
final class Promise39 {
    private Promise39() {
    }

    /** "a thing of KIND as (0 to 5, or one under it)": each KIND for each. */
    static void eachKindForEach(Due t) {
        int[][] above = {{0}, {0, 1}, {0, 2}, {0, 1, 3}, {0, 2, 4}, {0, 5}};
        for (int kind = 0; kind < 6; kind++) {
            KinCutlery x = new KinCutlery();
            x.guest(0, 0);
            x.guest(kind, 0);
            x.shelf(2, 0, 1);
            for (int as = 0; as < 6; as++) {
                boolean is = false;
                for (int a : above[kind]) {
                    is |= a == as;
                }
                t.due("kind " + kind + " for " + as, x.taken(2, as), is ? 1 : Edge.OTHER_SORT);
            }
            for (int as = 10; as < 14; as++) {
                t.due("kind " + kind + " for a row", x.taken(2, as), Edge.OTHER_SORT);
            }
        }
    }

    /** "for a row of sort as - 10 (as 10 to 13): how many items": none and forty. */
    static void eachSortForEach(Due t) {
        int[] many = {0, 1, 40};
        for (int sort = 0; sort < 4; sort++) {
            for (int n : many) {
                KinCutlery x = new KinCutlery();
                x.sheet(1, sort, n);
                x.shelf(0, 1, 1);
                for (int as = 0; as < 14; as = as == 5 ? 10 : as + 1) {
                    t.due("sort " + sort + " for " + as, x.taken(0, as), as == sort + 10 ? n : Edge.OTHER_SORT);
                }
            }
        }
    }

    static void noSuchShelfIsBad(Due t) {
        for (int s : Edge.beyond(0, 3)) {
            Edge.unchanged(t, Edge::few, "taken(" + s + ", 0)", Edge.BAD, x -> x.taken(s, 0));
            Edge.unchanged(t, Edge::few, "taken(" + s + ", 10)", Edge.BAD, x -> x.taken(s, 10));
        }
    }

    /** as: 0 to 5, 10 to 13; 6 to 9 are none, whatever the SHELF holds. */
    static void noSuchAsIsBad(Due t) {
        int[] none = {-1, 6, 7, 8, 9, 14, Edge.LEAST, Edge.MOST};
        for (int as : none) {
            for (int k = 0; k < 4; k++) {
                int s = k;
                Edge.unchanged(t, Edge::few, "taken(" + s + ", " + as + ")", Edge.BAD, x -> x.taken(s, as));
            }
        }
    }

    /** "-11": the SHELF holds nothing, for any as. */
    static void nothing(Due t) {
        for (int k = 0; k < 14; k = k == 5 ? 10 : k + 1) {
            int as = k;
            Edge.unchanged(t, Edge::few, "taken(2, " + as + ")", Edge.NOTHING, x -> x.taken(2, as));
        }
    }

    /** "(by its number; nothing, if there is no such one at the time)" */
    static void noSuchOneAtTheTime(Due t) {
        KinCutlery x = Edge.few();
        x.again();
        t.due("number 2 of two", x.taken(3, 0), Edge.NOTHING);
        t.due("number 0", x.taken(0, 0), 0);
        x.guest(Edge.NIECE, 1);
        t.due("there is one again, a niece", x.taken(3, 1), 2);
        t.due("no clerk", x.taken(3, 4), Edge.OTHER_SORT);
        x.feast();
        x.feast();
        t.due("nobody", x.taken(0, 0), Edge.NOTHING);
        t.due("the row stays", x.taken(1, 10), 5);
    }

    /** Of the KIND that it is now. */
    static void ofTheKindThatItIsNow(Due t) {
        KinCutlery x = Edge.few();
        t.due("a clerk", x.taken(3, 4), 2);
        x.mind(2, Edge.HEIR);
        t.due("an heir", x.taken(3, 3), 2);
        t.due("a niece", x.taken(3, 1), 2);
        t.due("no clerk", x.taken(3, 4), Edge.OTHER_SORT);
        t.due("no actuary", x.taken(3, 2), Edge.OTHER_SORT);
    }

    /** The row that the SHEET had: it stays there when the SHEET becomes another or missing. */
    static void theRowThatItWas(Due t) {
        KinCutlery x = Edge.few();
        x.put(0, 0, 9);
        t.due("an item", x.taken(1, 10), 5);
        x.sheet(0, 3, 40);
        t.due("another", x.taken(1, 10), 5);
        t.due("not that", x.taken(1, 13), Edge.OTHER_SORT);
        x.sheet(0, -1, 0);
        t.due("missing", x.taken(1, 10), 5);
    }

    /** Who is DROWNED is held like any other. */
    static void drowned(Due t) {
        KinCutlery x = Edge.few();
        x.shelf(2, 0, 1);
        t.due("DROWNED", x.of(1, 4), 1);
        t.due("taken(2, 3)", x.taken(2, 3), 1);
    }

    /** "of several the first named": BAD before -11 and -13. */
    static void theFirstNamed(Due t) {
        Edge.unchanged(t, Edge::few, "BAD before -11", Edge.BAD, x -> x.taken(2, 6));
        Edge.unchanged(t, Edge::few, "BAD before -13", Edge.BAD, x -> x.taken(1, 14));
        Edge.unchanged(t, Edge::nobody, "-11 before -13", Edge.NOTHING, x -> x.taken(0, 10));
    }
}
