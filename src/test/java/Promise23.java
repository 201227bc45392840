/** Edges of promise 23: kindFor. */
final class Promise23 {
    private Promise23() {
    }

    /** "of several the least": guest, if none makes any difference, whatever it is. */
    static void ofSeveralTheLeast(Due t) {
        String[] kinds = {"guest", "niece", "actuary", "heir", "clerk", "girl"};
        for (String kind : kinds) {
            t.due("DROWNED", Edge.feasted(kind + " with 0 gone 50 drowned;").kindFor(0, 40), 0);
            t.due("no BREATH", Edge.feasted(kind + " with 0 gone 50;breath 0;").kindFor(0, 40), 0);
            t.due("not its part", Edge.feasted(kind + " with 1 gone 50;").kindFor(0, 40), 0);
            t.due("any tells", Edge.feasted(kind + " with 0 gone 50;").kindFor(0, 1), 0);
        }
    }

    /** Each KIND is the best, or the least of the best, somewhere. */
    static void eachKind(Due t) {
        t.due("guest: 16 and 4", Edge.feasted("clerk with 0 gone 16;").kindFor(0, 1), Edge.GUEST);
        t.due("niece: 15 and 6", Edge.feasted("clerk with 0 gone 15;").kindFor(0, 1), Edge.NIECE);
        t.due("niece: 9 and 6", Edge.feasted("clerk with 0 gone 9;").kindFor(0, 1), Edge.NIECE);
        t.due("heir: 8 and 12", Edge.feasted("clerk with 0 gone 8;").kindFor(0, 1), Edge.HEIR);
        t.due("heir: 1 and 12", Edge.feasted("clerk with 0 gone 1;").kindFor(0, 1), Edge.HEIR);
        t.due("girl: 1 and 9, an heir 1 and 8", Edge.feasted("clerk with 0 gone 1;salt 0;").kindFor(0, 1), Edge.GIRL);
        t.due("none: 0 and 9", Edge.feasted("clerk with 0;salt 0;").kindFor(0, 1), Edge.GUEST);
        // Its part comes behind 10, when all that go faster are DROWNED; it is at 30 behind 15.
        KinCutlery x = Edge.feasted("actuary with 0 gone 10;girl with 1;depth 35;");
        t.due("by 14", x.kindFor(1, 14), Edge.GUEST);
        t.due("by 15", x.kindFor(1, 15), Edge.ACTUARY);
        // Its part comes behind 28, when an actuary is DROWNED, too.
        KinCutlery y = Edge.feasted("clerk with 0;girl with 1;depth 40;salt 1;");
        t.due("by 27", y.kindFor(1, 27), Edge.GUEST);
        t.due("by 28", y.kindFor(1, 28), Edge.CLERK);
        t.due("by 40", y.kindFor(1, 40), Edge.CLERK);
    }

    static void nothingChanges(Due t) {
        Edge.unchanged(t, () -> Edge.feasted("clerk with 0 gone 1;salt 0;"), "kindFor(0, 1)", Edge.GIRL, x -> x.kindFor(0, 1));
        Edge.unchanged(t, Edge::full, "kindFor(7, 40)", 0, x -> x.kindFor(7, 40));
    }

    static void otherNumbersAreBad(Due t) {
        Edge.badBeyond(t, Edge::few, "kindFor(0, ..)", 1, 40, (x, n) -> x.kindFor(0, n));
    }

    static void noSuchOneIsBad(Due t) {
        Edge.badForNobody(t, "kindFor(.., 1)", (x, g) -> x.kindFor(g, 1));
        Edge.badForNobody(t, "kindFor(.., 40)", (x, g) -> x.kindFor(g, 40));
    }
}
