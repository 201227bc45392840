/** Edges of promise 11: sink. */
final class Promise11 {
    private Promise11() {
    }

    /** "GONE (what 0; 0 to 99) .. becomes v: what it was" */
    static void goneOf0To99(Due t) {
        KinCutlery x = Edge.full();
        int was = x.of(7, 2);
        int[] allowed = {0, 99, 1, 98, 0, 0, 99, 99};
        for (int v : allowed) {
            t.due("sink(7, 0, " + v + ")", x.sink(7, 0, v), was);
            t.due("GONE", x.of(7, 2), v);
            was = v;
        }
        t.due("the others stay", x.of(6, 2), Edge.full().of(6, 2));
    }

    static void goneBeyondIsBad(Due t) {
        Edge.badBeyond(t, Edge::few, "sink(0, 0, ..)", 0, 99, (x, v) -> x.sink(0, 0, v));
    }

    /** "DROWNED (1; 0 or 1)" */
    static void drownedOf0Or1(Due t) {
        for (int g = 0; g < 8; g++) {
            KinCutlery x = Edge.girls(3);
            t.due("not to not", x.sink(g, 1, 0), 0);
            t.due("not to DROWNED", x.sink(g, 1, 1), 0);
            t.due("the set", x.state(3), 1 << g);
            t.due("DROWNED to DROWNED", x.sink(g, 1, 1), 1);
            t.due("DROWNED", x.of(g, 4), 1);
            t.due("DROWNED to not", x.sink(g, 1, 0), 1);
            t.due("the set", x.state(3), 0);
            t.due("GONE stays", x.of(g, 2), 99);
        }
    }

    static void drownedBeyondIsBad(Due t) {
        Edge.badBeyond(t, Edge::few, "sink(0, 1, ..)", 0, 1, (x, v) -> x.sink(0, 1, v));
        Edge.unchanged(t, Edge::few, "sink(1, 1, 99)", Edge.BAD, x -> x.sink(1, 1, 99));
    }

    static void noSuchWhatIsBad(Due t) {
        for (int what : Edge.beyond(0, 1)) {
            Edge.unchanged(t, Edge::few, "sink(0, " + what + ", 0)", Edge.BAD, x -> x.sink(0, what, 0));
            Edge.unchanged(t, Edge::few, "sink(0, " + what + ", 1)", Edge.BAD, x -> x.sink(0, what, 1));
        }
    }

    static void noSuchOneIsBad(Due t) {
        Edge.badForNobody(t, "sink(.., 0, 0)", (x, g) -> x.sink(g, 0, 0));
        Edge.badForNobody(t, "sink(.., 1, 1)", (x, g) -> x.sink(g, 1, 1));
    }

    /** GONE farther than DEPTH doesn't drown by itself: a COURSE does. */
    static void goneFartherThanDepthWaitsForACourse(Due t) {
        KinCutlery x = new KinCutlery();
        x.guest(0, 1);
        x.set(Edge.DEPTH, 0);
        x.sink(0, 0, 99);
        t.due("not yet", x.of(0, 4), 0);
        x.courses(1);
        t.due("now", x.of(0, 4), 1);
    }
}
