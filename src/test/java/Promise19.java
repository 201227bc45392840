/** Edges of promise 19: sinks. */
final class Promise19 {
    private Promise19() {
    }

    /** "behind the fewest (0 to 60)": who is DROWNED now is behind none. */
    static void drownedNow(Due t) {
        Edge.unchanged(t, () -> Edge.feasted("girl with 0 drowned;"), "sinks(0)", 0, x -> x.sinks(0));
        Edge.unchanged(t, () -> Edge.feasted("girl with 0;girl with 0 gone 99 drowned;"), "sinks(1)", 0, x -> x.sinks(1));
    }

    /** GONE farther than DEPTH is not DROWNED yet: behind one COURSE it is. */
    static void tooDeepAlready(Due t) {
        Edge.unchanged(t, () -> Edge.feasted("guest with 1 gone 99;depth 0;"), "sinks(0)", 1, x -> x.sinks(0));
    }

    /** A clerk by SALT 1 goes 1 a COURSE: each number up to 60, and not 61. */
    static void upToSixty(Due t) {
        KinCutlery x = Edge.feasted("clerk with 1;salt 1;");
        for (int n = 1; n <= 60; n++) {
            x.set(Edge.DEPTH, n - 1);
            t.due("depth " + (n - 1), x.sinks(0), n);
        }
        x.set(Edge.DEPTH, 60);
        t.due("depth 60", x.sinks(0), Edge.NONE);
    }

    /** "NONE: not by then" */
    static void notByThen(Due t) {
        Edge.unchanged(t, () -> Edge.feasted("guest with 1 gone 99;depth 99;"), "nobody is deeper than 99", Edge.NONE, x -> x.sinks(0));
        Edge.unchanged(t, () -> Edge.feasted("clerk with 1 gone 90;"), "it TAKES nothing", Edge.NONE, x -> x.sinks(0));
    }

    static void noSuchOneIsBad(Due t) {
        Edge.badForNobody(t, "sinks(..)", (x, g) -> x.sinks(g));
    }
}
