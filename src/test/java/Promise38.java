/** Edges of promise 38: shelf. */
final class Promise38 {
    private Promise38() {
    }

    /** "A SHELF holds one of the GUESTS (what 0, its number n)": the first and the last, on each SHELF. */
    static void theFirstAndTheLastGuest(Due t) {
        for (int s = 0; s < 4; s++) {
            KinCutlery x = Edge.girls(3);
            t.due("shelf(" + s + ", 0, 0)", x.shelf(s, 0, 0), 1);
            t.due("taken", x.taken(s, 0), 0);
            t.due("shelf(" + s + ", 0, 7)", x.shelf(s, 0, 7), 1);
            t.due("taken", x.taken(s, 0), 7);
            t.due("the SHELF beside it", x.taken((s + 1) % 4, 0), Edge.NOTHING);
        }
    }

    /** "the row of SHEET n (1; nothing, if missing)" */
    static void theRowOfEachSheet(Due t) {
        KinCutlery x = new KinCutlery();
        for (int n = 0; n < 4; n++) {
            x.sheet(n, n, 10 * n);
        }
        for (int n = 0; n < 4; n++) {
            t.due("shelf(3, 1, " + n + ")", x.shelf(3, 1, n), 1);
            t.due("taken", x.taken(3, 10 + n), 10 * n);
        }
    }

    /** "nothing, if missing": what the SHELF held before isn't there any more. */
    static void theRowOfAMissingSheet(Due t) {
        for (int s = 0; s < 4; s++) {
            KinCutlery x = Edge.few();
            t.due("shelf(" + s + ", 1, 2)", x.shelf(s, 1, 2), 1);
            for (int as = 0; as < 14; as = as == 5 ? 10 : as + 1) {
                t.due("taken", x.taken(s, as), Edge.NOTHING);
            }
            x.sheet(2, 0, 5);
            t.due("nor when there is one later", x.taken(s, 10), Edge.NOTHING);
        }
    }

    /** "nothing (2)": n counts nothing then. */
    static void nothing(Due t) {
        int[] any = {0, -1, 9, Edge.LEAST, Edge.MOST};
        for (int n : any) {
            KinCutlery x = Edge.few();
            for (int s = 0; s < 4; s++) {
                t.due("shelf(" + s + ", 2, " + n + ")", x.shelf(s, 2, n), 1);
                t.due("taken", x.taken(s, 0), Edge.NOTHING);
            }
        }
    }

    /** Two SHELVES may hold the same. */
    static void theSameOnTwo(Due t) {
        KinCutlery x = Edge.few();
        t.due("shelf(2, 0, 2)", x.shelf(2, 0, 2), 1);
        t.due("taken(2, 4)", x.taken(2, 4), 2);
        t.due("taken(3, 4)", x.taken(3, 4), 2);
        x.shelf(2, 2, 0);
        t.due("the other stays", x.taken(3, 4), 2);
    }

    static void noSuchShelfIsBad(Due t) {
        for (int s : Edge.beyond(0, 3)) {
            Edge.unchanged(t, Edge::few, "shelf(" + s + ", 0, 0)", Edge.BAD, x -> x.shelf(s, 0, 0));
            Edge.unchanged(t, Edge::few, "shelf(" + s + ", 1, 0)", Edge.BAD, x -> x.shelf(s, 1, 0));
            Edge.unchanged(t, Edge::few, "shelf(" + s + ", 2, 0)", Edge.BAD, x -> x.shelf(s, 2, 0));
        }
    }

    static void noSuchWhatIsBad(Due t) {
        Edge.badBeyond(t, Edge::few, "shelf(0, .., 0)", 0, 2, (x, what) -> x.shelf(0, what, 0));
    }

    /** "BAD: no such .. thing": one of the GUESTS. */
    static void noSuchGuestIsBad(Due t) {
        Edge.badForNobody(t, "shelf(0, 0, ..)", (x, g) -> x.shelf(0, 0, g));
        Edge.badForNobody(t, "shelf(1, 0, ..)", (x, g) -> x.shelf(1, 0, g));
    }

    /** "BAD: no such .. thing": a SHEET. */
    static void noSuchSheetIsBad(Due t) {
        Edge.badBeyond(t, Edge::few, "shelf(0, 1, ..)", 0, 3, (x, n) -> x.shelf(0, 1, n));
    }
}
