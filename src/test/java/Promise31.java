/** Edges of promise 31: row. */
final class Promise31 {
    private Promise31() {
    }

    /** "(GONE, TELLS, TOLD) behind 1, 2, .. n": the first and the last. */
    static void theFirstAndTheLast(Due t) {
        KinCutlery x = Edge.feasted("guest with 0 gone 16;told 16;");
        x.prove(0, 10);
        int[] first = {10, 1, 17};
        int[] last = {46, 1, 17};
        for (int what = 0; what < 3; what++) {
            t.due("row(0, " + what + ")", x.row(0, what), first[what]);
            t.due("row(9, " + what + ")", x.row(9, what), last[what]);
        }
    }

    /** "-9: there is none such": by one ROW, four and ten. */
    static void noSuchRow(Due t) {
        int[] many = {1, 4, 10};
        for (int n : many) {
            KinCutlery x = Edge.few();
            x.prove(0, n);
            for (int i : Edge.beyond(0, n - 1)) {
                for (int what = 0; what < 3; what++) {
                    t.due("row(" + i + ", " + what + ") of " + n, x.row(i, what), Edge.NO_ROW);
                }
            }
        }
        for (int i : Edge.beyond(0, 3)) {
            Edge.unchanged(t, Edge::few, "row(" + i + ", 0)", Edge.NO_ROW, x -> x.row(i, 0));
        }
    }

    static void noRowsAtAll(Due t) {
        KinCutlery x = new KinCutlery();
        for (int i = -1; i <= 10; i++) {
            t.due("row(" + i + ", 0)", x.row(i, 0), Edge.NO_ROW);
        }
    }

    /** "another what" */
    static void anotherWhat(Due t) {
        for (int what : Edge.beyond(0, 2)) {
            Edge.unchanged(t, Edge::few, "row(0, " + what + ")", Edge.NO_ROW, x -> x.row(0, what));
            Edge.unchanged(t, Edge::few, "row(3, " + what + ")", Edge.NO_ROW, x -> x.row(3, what));
        }
    }

    static void nothingChanges(Due t) {
        Edge.unchanged(t, Edge::few, "row(1, 2)", -77, x -> x.row(1, 2));
    }

    /** ROWS stay when nobody is left of whom they were. */
    static void rowsOfNobody(Due t) {
        KinCutlery x = Edge.nobody();
        t.due("many(4)", x.many(4), 4);
        t.due("row(1, 2)", x.row(1, 2), -77);
    }
}
