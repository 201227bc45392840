/** Edges of promise 25: depthFor. */
final class Promise25 {
    private Promise25() {
    }

    /** "the least DEPTH (0 to 99)": 0, where nobody can be DROWNED any more or is GONE at all. */
    static void zero(Due t) {
        Edge.unchanged(t, Edge::nobody, "nobody", 0, x -> x.depthFor(40));
        Edge.unchanged(t, () -> Edge.feasted("girl with 0 gone 99 drowned;heir with 0 drowned;"), "all DROWNED now", 0, x -> x.depthFor(40));
        Edge.unchanged(t, () -> Edge.feasted("clerk with 1;depth 7;"), "a clerk TAKES nothing", 0, x -> x.depthFor(40));
        Edge.unchanged(t, () -> Edge.feasted("clerk with 1 gone 1;"), "but is 1", 1, x -> x.depthFor(40));
    }

    /** 99, never NONE: nobody is GONE farther than that. */
    static void ninetyNine(Due t) {
        Edge.unchanged(t, () -> Edge.feasted("heir with 1 gone 99;salt 9;depth 0;"), "depthFor(1)", 99, x -> x.depthFor(1));
        Edge.unchanged(t, () -> Edge.feasted("heir with 1;salt 9;depth 0;"), "depthFor(40)", 99, x -> x.depthFor(40));
    }

    /** "n (1 to 40)": each. */
    static void oneToForty(Due t) {
        KinCutlery x = Edge.feasted("clerk with 1 gone 20;clerk with 1 gone 3;salt 1;depth 0;");
        for (int n = 1; n <= 40; n++) {
            t.due("depthFor(" + n + ")", x.depthFor(n), 20 + n);
        }
    }

    /** GONE farther before its telling doesn't count: (3) is behind (2). */
    static void deepestBehindTheTelling(Due t) {
        KinCutlery x = Edge.feasted("guest with 0 gone 16;");
        t.due("20, then 10", x.depthFor(1), 10);
        t.due("14", x.depthFor(2), 14);
        // GONE 99 now, but 89 behind the COURSE: what it is now counts nothing.
        t.due("from 99", Edge.feasted("guest with 0 gone 99;").depthFor(1), 89);
    }

    /** "nobody is DROWNED .. who isn't now": of the one that goes deepest, whichever it is. */
    static void theDeepestOfEight(Due t) {
        for (int g = 0; g < 8; g++) {
            KinCutlery x = new KinCutlery();
            for (int i = 0; i < 8; i++) {
                x.guest(Edge.GUEST, 1);
            }
            x.sink(g, 0, 31);
            t.due("number " + g, x.depthFor(1), 35);
            x.sink(g, 1, 1);
            t.due("DROWNED", x.depthFor(1), 4);
        }
    }

    static void otherNumbersAreBad(Due t) {
        for (int n : Edge.beyond(1, 40)) {
            Edge.unchanged(t, Edge::few, "depthFor(" + n + ")", Edge.BAD, x -> x.depthFor(n));
            Edge.unchanged(t, Edge::nobody, "depthFor(" + n + ")", Edge.BAD, x -> x.depthFor(n));
        }
    }
}
