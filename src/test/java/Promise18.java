/** Edges of promise 18: speaks. */
final class Promise18 {
    private Promise18() {
    }

    /** "it TELLS more than now first (never 0)": though it be far GONE and told before. */
    static void neverBehindNone(Due t) {
        KinCutlery x = Edge.girls(9);
        t.due("speaks(0)", x.speaks(0), 1);
        x.courses(1);
        t.due("speaks(0) that told twice", x.speaks(0), 1);
        t.due("speaks(7)", x.speaks(7), 1);
    }

    /** As long as one can wait: a clerk by SALT 1 tells behind 28; by BREATH 1 the eighth part is told behind 35. */
    static void theLongestWaits(Due t) {
        KinCutlery x = Edge.feasted("clerk with 0;clerk with 1;clerk with 2;clerk with 3;clerk with 4;clerk with 5;clerk with 6;"
            + "clerk with 7;salt 1;breath 1;");
        for (int g = 0; g < 8; g++) {
            t.due("speaks(" + g + ")", x.speaks(g), 28 + g);
        }
    }

    /** "NONE: not by then" */
    static void notByThen(Due t) {
        Edge.unchanged(t, () -> Edge.feasted("clerk with 0;"), "it TAKES nothing", Edge.NONE, x -> x.speaks(0));
        Edge.unchanged(t, () -> Edge.feasted("girl with 1 gone 50;"), "not its part", Edge.NONE, x -> x.speaks(0));
        Edge.unchanged(t, () -> Edge.feasted("girl with 0 gone 50 drowned;"), "DROWNED", Edge.NONE, x -> x.speaks(0));
        Edge.unchanged(t, () -> Edge.feasted("girl with 0 gone 50;breath 0;"), "no BREATH", Edge.NONE, x -> x.speaks(0));
        Edge.unchanged(t, () -> Edge.feasted("guest with 0 gone 10;depth 17;"), "DROWNED at 18", Edge.NONE, x -> x.speaks(0));
        Edge.unchanged(t, () -> Edge.feasted("girl with 0 gone 50;girl with 0 gone 50;"), "the other tells", Edge.NONE, x -> x.speaks(1));
    }

    /** Who tells and is DROWNED in the same COURSE did tell. */
    static void toldAndDrownedAtOnce(Due t) {
        KinCutlery x = Edge.feasted("guest with 0 gone 16;depth 9;");
        t.due("speaks", x.speaks(0), 1);
        t.due("sinks", x.sinks(0), 1);
    }

    static void noSuchOneIsBad(Due t) {
        Edge.badForNobody(t, "speaks(..)", (x, g) -> x.speaks(g));
    }

    static void nothingChanges(Due t) {
        Edge.unchanged(t, () -> Edge.girls(1), "speaks(7)", 8, x -> x.speaks(7));
    }

    /** "TELLS .. (9999 at most)": from there it is never more. */
    static void tellsAtMost(Due t) {
        KinCutlery x = Edge.girls(9);
        for (int i = 0; i < 148; i++) {
            x.courses(60);
        }
        x.courses(7);
        x.set(Edge.BREATH, 8);
        t.due("TELLS", x.of(7, 3), 9997);
        t.due("speaks", x.speaks(7), 1);
        x.courses(1);
        t.due("TELLS", x.of(7, 3), 9998);
        t.due("speaks", x.speaks(7), 1);
        x.courses(1);
        t.due("TELLS", x.of(7, 3), 9999);
        t.due("speaks", x.speaks(7), Edge.NONE);
        t.due("goneFor", x.goneFor(7, 40), Edge.NONE);
    }
}
