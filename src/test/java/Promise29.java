/** Edges of promise 29: hope. */
final class Promise29 {
    private Promise29() {
    }

    private static void hope(Due t, int slip, int n, long above, long below) {
        KinCutlery x = new KinCutlery();
        x.set(Edge.SLIP, slip);
        t.due("hope(" + n + ", 0) by " + slip, x.hope(n, 0), above);
        t.due("hope(" + n + ", 1) by " + slip, x.hope(n, 1), below);
    }

    /** "0 is 0 by 1": of no feasts, and without slips. */
    static void zero(Due t) {
        hope(t, 20, 0, 0, 1);
        hope(t, 99, 0, 0, 1);
        hope(t, 0, 0, 0, 1);
        hope(t, 0, 1, 0, 1);
        hope(t, 0, 99, 0, 1);
    }

    /** "n (0 to 99)": 1 and 99. */
    static void oneAndNinetyNine(Due t) {
        hope(t, 20, 1, 1, 5);
        hope(t, 99, 1, 99, 100);
        hope(t, 1, 1, 1, 100);
        hope(t, 1, 99, 99, 100);
        hope(t, 99, 99, 9801, 100);
        hope(t, 50, 99, 99, 2);
        hope(t, 20, 98, 98, 5);
    }

    /** A whole number is by 1. */
    static void whole(Due t) {
        hope(t, 20, 5, 1, 1);
        hope(t, 50, 98, 49, 1);
        hope(t, 25, 96, 24, 1);
    }

    static void otherNumbersOfFeastsAreBad(Due t) {
        Edge.badBeyond(t, Edge::few, "hope(.., 0)", 0, 99, (x, n) -> x.hope(n, 0));
    }

    static void noSuchPartIsBad(Due t) {
        for (int part : Edge.beyond(0, 1)) {
            Edge.unchanged(t, Edge::few, "hope(5, " + part + ")", Edge.BAD, x -> x.hope(5, part));
            Edge.unchanged(t, Edge::few, "hope(0, " + part + ")", Edge.BAD, x -> x.hope(0, part));
        }
    }

    static void nothingChanges(Due t) {
        Edge.unchanged(t, Edge::few, "hope(99, 0)", 693, x -> x.hope(99, 0));
        Edge.unchanged(t, Edge::few, "hope(99, 1)", 50, x -> x.hope(99, 1));
    }
}
