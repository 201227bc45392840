/** Edges of promise 32: alterRow. */
final class Promise32 {
    private Promise32() {
    }

    /** "It becomes v: what it was": any int, though it look like a refusal. */
    static void anyInt(Due t) {
        KinCutlery x = Edge.few();
        for (int i = 0; i < 4; i += 3) {
            for (int what = 0; what < 3; what++) {
                int was = x.row(i, what);
                int[] ints = {0, -1, -9, Edge.LEAST, Edge.MOST, 100, 100000};
                for (int v : ints) {
                    t.due("alterRow(" + i + ", " + what + ", " + v + ")", x.alterRow(i, what, v), was);
                    t.due("row(" + i + ", " + what + ")", x.row(i, what), v);
                    was = v;
                }
            }
        }
    }

    /** That number alone is another. */
    static void itAlone(Due t) {
        for (int i = 0; i < 10; i++) {
            for (int what = 0; what < 3; what++) {
                KinCutlery x = Edge.girls(1);
                KinCutlery y = Edge.girls(1);
                x.prove(3, 10);
                y.prove(3, 10);
                x.alterRow(i, what, 1234);
                for (int k = 0; k < 30; k++) {
                    t.due("row(" + k / 3 + ", " + k % 3 + ")", x.row(k / 3, k % 3), k == 3 * i + what ? 1234 : y.row(k / 3, k % 3));
                }
                t.due("TOLD stays", x.state(1), 0);
                t.due("GONE stays", x.of(3, 2), 99);
            }
        }
    }

    /** "-9 likewise": there is none such. */
    static void noSuchRow(Due t) {
        for (int i : Edge.beyond(0, 3)) {
            for (int w = 0; w < 3; w++) {
                int what = w;
                Edge.unchanged(t, Edge::few, "alterRow(" + i + ", " + what + ", 5)", Edge.NO_ROW, x -> x.alterRow(i, what, 5));
            }
        }
        Edge.unchanged(t, KinCutlery::new, "alterRow(0, 0, 5)", Edge.NO_ROW, x -> x.alterRow(0, 0, 5));
    }

    /** "-9 likewise": another what. */
    static void anotherWhat(Due t) {
        for (int what : Edge.beyond(0, 2)) {
            Edge.unchanged(t, Edge::few, "alterRow(0, " + what + ", 5)", Edge.NO_ROW, x -> x.alterRow(0, what, 5));
            Edge.unchanged(t, Edge::few, "alterRow(3, " + what + ", 5)", Edge.NO_ROW, x -> x.alterRow(3, what, 5));
        }
    }

    /** A ROW beyond those that there are isn't altered for a later prove(), either. */
    static void nothingIsLeftForLater(Due t) {
        KinCutlery x = Edge.girls(1);
        x.prove(0, 2);
        t.due("alterRow(2, 0, 5)", x.alterRow(2, 0, 5), Edge.NO_ROW);
        x.prove(0, 3);
        t.due("row(2, 0)", x.row(2, 0), 99);
    }
}
