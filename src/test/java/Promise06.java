/** Edges of promise 6: guest. */
final class Promise06 {
    private Promise06() {
    }

    /** Each KIND (0 to 5) with each piece (0 to 7): "not GONE at all". */
    static void eachKindWithEachPiece(Due t) {
        for (int kind = 0; kind < 6; kind++) {
            for (int piece = 0; piece < 8; piece++) {
                KinCutlery x = new KinCutlery();
                t.due("guest(" + kind + ", " + piece + ")", x.guest(kind, piece), 0);
                int[] want = {kind, piece, 0, 0, 0};
                for (int what = 0; what < 5; what++) {
                    t.due("of(0, " + what + ")", x.of(0, what), want[what]);
                }
            }
        }
    }

    static void noSuchKindIsBad(Due t) {
        Edge.badBeyond(t, Edge::few, "guest(.., 0)", 0, 5, (x, kind) -> x.guest(kind, 0));
    }

    static void noSuchPieceIsBad(Due t) {
        Edge.badBeyond(t, Edge::few, "guest(0, ..)", 0, 7, (x, piece) -> x.guest(0, piece));
    }

    /** "GUESTS, 8 at most, numbered as they come": the eighth is number 7. */
    static void numbersOfEight(Due t) {
        KinCutlery x = new KinCutlery();
        for (int g = 0; g < 8; g++) {
            t.due("many(0)", x.many(0), g);
            t.due("guest", x.guest(g % 6, g), g);
        }
        t.due("many(0)", x.many(0), 8);
    }

    /** "FULL": a ninth, though some be DROWNED. */
    static void aNinthIsFull(Due t) {
        Edge.unchanged(t, Edge::full, "guest(0, 0)", Edge.FULL, x -> x.guest(0, 0));
        Edge.unchanged(t, Edge::full, "guest(5, 7)", Edge.FULL, x -> x.guest(5, 7));
        KinCutlery x = Edge.full();
        for (int g = 0; g < 8; g++) {
            x.sink(g, 1, 1);
        }
        t.due("all DROWNED", x.guest(0, 0), Edge.FULL);
    }

    /** "of several the first named": BAD, then FULL. */
    static void badBeforeFull(Due t) {
        Edge.badBeyond(t, Edge::full, "guest(.., 0)", 0, 5, (x, kind) -> x.guest(kind, 0));
        Edge.badBeyond(t, Edge::full, "guest(0, ..)", 0, 7, (x, piece) -> x.guest(0, piece));
    }

    /** One that comes in the place of another has none of its GONE, TELLS, DROWNED. */
    static void nothingOfOneBefore(Due t) {
        KinCutlery x = new KinCutlery();
        x.keep();
        x.guest(Edge.GIRL, 0);
        x.sink(0, 0, 99);
        x.courses(1);
        t.due("told", x.of(0, 3), 1);
        t.due("DROWNED", x.of(0, 4), 1);
        x.again();
        t.due("guest", x.guest(Edge.CLERK, 3), 0);
        int[] want = {4, 3, 0, 0, 0};
        for (int what = 0; what < 5; what++) {
            t.due("of(0, " + what + ")", x.of(0, what), want[what]);
        }
        t.due("none DROWNED", x.state(3), 0);
    }

    /** Several may HOLD the same piece. */
    static void samePieceEightTimes(Due t) {
        KinCutlery x = new KinCutlery();
        for (int g = 0; g < 8; g++) {
            t.due("guest", x.guest(0, 7), g);
        }
        t.due("one piece", x.many(3), 1);
    }
}
