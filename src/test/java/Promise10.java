/** Edges of promise 10: give. */
final class Promise10 {
    private Promise10() {
    }

    static void fromEachPieceToEach(Due t) {
        for (int from = 0; from < 8; from++) {
            for (int to = 0; to < 8; to++) {
                KinCutlery x = new KinCutlery();
                x.guest(4, from);
                t.due("give, from " + from + " to " + to, x.give(0, to), from);
                t.due("HOLDS", x.of(0, 1), to);
            }
        }
    }

    /** Who is DROWNED HOLDS another, too; all else stays. */
    static void theRestStays(Due t) {
        KinCutlery x = Edge.full();
        int[] want = new int[5];
        for (int what = 0; what < 5; what++) {
            want[what] = x.of(1, what);
        }
        t.due("DROWNED", want[4], 1);
        t.due("give", x.give(1, 2), want[1]);
        want[1] = 2;
        for (int what = 0; what < 5; what++) {
            t.due("of(1, " + what + ")", x.of(1, what), want[what]);
        }
        t.due("the first", x.of(0, 1), Edge.full().of(0, 1));
        t.due("the last", x.of(7, 1), Edge.full().of(7, 1));
    }

    static void noSuchOneIsBad(Due t) {
        Edge.badForNobody(t, "give(.., 0)", (x, g) -> x.give(g, 0));
        Edge.badForNobody(t, "give(.., 7)", (x, g) -> x.give(g, 7));
    }

    static void noSuchPieceIsBad(Due t) {
        Edge.badBeyond(t, Edge::few, "give(0, ..)", 0, 7, (x, piece) -> x.give(0, piece));
    }
}
