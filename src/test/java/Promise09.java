/** Edges of promise 9: mind. */
final class Promise09 {
    private Promise09() {
    }

    /** Any KIND from any: "the KIND that it was". The same again is taken for one, too. */
    static void fromEachKindToEach(Due t) {
        for (int from = 0; from < 6; from++) {
            for (int to = 0; to < 6; to++) {
                KinCutlery x = new KinCutlery();
                x.guest(from, 3);
                t.due("mind from " + from + " to " + to, x.mind(0, to), from);
                t.due("KIND", x.of(0, 0), to);
            }
        }
    }

    /** The KIND alone is another: what it HOLDS, GONE, TELLS, DROWNED stay, and so do the others. */
    static void theRestStays(Due t) {
        KinCutlery x = Edge.girls(9);
        x.courses(1);
        x.sink(7, 1, 1);
        x.sink(7, 0, 42);
        t.due("mind", x.mind(7, 1), 5);
        int[] want = {1, 7, 42, 1, 1};
        for (int what = 0; what < 5; what++) {
            t.due("of(7, " + what + ")", x.of(7, what), want[what]);
        }
        for (int g = 0; g < 7; g++) {
            t.due("KIND of " + g, x.of(g, 0), 5);
        }
    }

    static void noSuchOneIsBad(Due t) {
        Edge.badForNobody(t, "mind(.., 0)", (x, g) -> x.mind(g, 0));
        Edge.badForNobody(t, "mind(.., 5)", (x, g) -> x.mind(g, 5));
    }

    static void noSuchKindIsBad(Due t) {
        Edge.badBeyond(t, Edge::few, "mind(2, ..)", 0, 5, (x, kind) -> x.mind(2, kind));
    }
}
