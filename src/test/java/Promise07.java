/** Edges of promise 7: of. */
final class Promise07 {
    private Promise07() {
    }

    static void eachWhatOfTheFirstAndTheLast(Due t) {
        KinCutlery x = Edge.girls(9);
        x.courses(1);
        x.sink(7, 1, 1);
        int[] first = {5, 0, 99, 2, 0};
        int[] last = {5, 7, 99, 1, 1};
        for (int what = 0; what < 5; what++) {
            t.due("of(0, " + what + ")", x.of(0, what), first[what]);
            t.due("of(7, " + what + ")", x.of(7, what), last[what]);
        }
    }

    static void nothingChanges(Due t) {
        for (int what = 0; what < 5; what++) {
            int w = what;
            int want = Edge.few().of(1, what);
            Edge.unchanged(t, Edge::few, "of(1, " + what + ")", want, x -> x.of(1, w));
        }
    }

    static void noSuchOneIsBad(Due t) {
        Edge.badForNobody(t, "of(.., 0)", (x, g) -> x.of(g, 0));
        Edge.badForNobody(t, "of(.., 4)", (x, g) -> x.of(g, 4));
    }

    static void noSuchWhatIsBad(Due t) {
        Edge.badBeyond(t, Edge::few, "of(0, ..)", 0, 4, (x, what) -> x.of(0, what));
    }
}
