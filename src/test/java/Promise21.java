/** Edges of promise 21: tale. */
final class Promise21 {
    private Promise21() {
    }

    /** "by n (0 to 60)": behind none it is TOLD. */
    static void behindNoneUpToSixty(Due t) {
        KinCutlery x = Edge.girls(9);
        for (int n = 0; n <= 60; n++) {
            t.due("tale(" + n + ")", x.tale(n), 9 * n);
        }
        x.courses(60);
        t.due("tale(0)", x.tale(0), 540);
        t.due("tale(60)", x.tale(60), 1080);
    }

    static void otherNumbersAreBad(Due t) {
        for (int n : Edge.beyond(0, 60)) {
            Edge.unchanged(t, Edge::few, "tale(" + n + ")", Edge.BAD, x -> x.tale(n));
            Edge.unchanged(t, Edge::nobody, "tale(" + n + ")", Edge.BAD, x -> x.tale(n));
        }
    }

    static void nothingChanges(Due t) {
        Edge.unchanged(t, () -> Edge.girls(9), "tale(60)", 540, x -> x.tale(60));
        Edge.unchanged(t, Edge::nobody, "tale(60)", 12, x -> x.tale(60));
    }
}
