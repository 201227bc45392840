/** Edges of promise 24: goneFor. */
final class Promise24 {
    private Promise24() {
    }

    /** "the least that it is GONE now (0 to 99)": 0, if that is enough, however far it is GONE. */
    static void notGoneAtAll(Due t) {
        Edge.unchanged(t, () -> Edge.feasted("guest with 0 gone 99;"), "goneFor(0, 5)", 0, x -> x.goneFor(0, 5));
        Edge.unchanged(t, () -> Edge.feasted("guest with 0 gone 99;"), "goneFor(0, 40)", 0, x -> x.goneFor(0, 40));
        Edge.unchanged(t, () -> Edge.feasted("heir with 0 gone 50;salt 9;"), "goneFor(0, 1)", 0, x -> x.goneFor(0, 1));
    }

    /** "within n COURSES (1 to 40)": 1 less for each more of a clerk by SALT 1, until 0. */
    static void lessForMoreCourses(Due t) {
        KinCutlery x = Edge.feasted("clerk with 0;salt 1;");
        for (int n = 1; n <= 40; n++) {
            t.due("goneFor(0, " + n + ")", x.goneFor(0, n), Math.max(0, 28 - n));
        }
    }

    /** A clerk by SALT 9 must be 98, to be 28 ten COURSES later; eleven are too many. */
    static void nearlyAsFarAsCanBe(Due t) {
        Edge.unchanged(t, () -> Edge.feasted("actuary with 0 gone 10;clerk with 1;salt 9;depth 99;"),
            "goneFor(1, 10)", 98, x -> x.goneFor(1, 10));
        Edge.unchanged(t, () -> Edge.feasted("actuary with 0 gone 10;clerk with 1;salt 9;depth 99;"),
            "goneFor(1, 9)", Edge.NONE, x -> x.goneFor(1, 9));
        Edge.unchanged(t, () -> Edge.feasted("actuary with 0 gone 8;clerk with 1;salt 9;depth 99;"),
            "eleven", Edge.NONE, x -> x.goneFor(1, 40));
    }

    /** "NONE: with none" */
    static void withNone(Due t) {
        Edge.unchanged(t, () -> Edge.feasted("girl with 1;"), "not its part", Edge.NONE, x -> x.goneFor(0, 40));
        Edge.unchanged(t, () -> Edge.feasted("girl with 0 drowned;"), "DROWNED", Edge.NONE, x -> x.goneFor(0, 40));
        Edge.unchanged(t, () -> Edge.feasted("girl with 0;breath 0;"), "no BREATH", Edge.NONE, x -> x.goneFor(0, 40));
    }

    /** If it goes too deep before its part comes, less far may still do. */
    static void tooDeepBeforeItsPart(Due t) {
        KinCutlery x = Edge.feasted("actuary with 0 gone 26;guest with 1 gone 99;depth 50;");
        t.due("1 behind 2: it is at 8 then, and at 20 behind 5", x.goneFor(1, 40), 0);
        t.due("by 2", x.goneFor(1, 2), 12);
        x.set(Edge.DEPTH, 15);
        t.due("by 2, DROWNED at 16 behind 1", x.goneFor(1, 2), Edge.NONE);
    }

    static void otherNumbersAreBad(Due t) {
        Edge.badBeyond(t, Edge::few, "goneFor(0, ..)", 1, 40, (x, n) -> x.goneFor(0, n));
    }

    static void noSuchOneIsBad(Due t) {
        Edge.badForNobody(t, "goneFor(.., 1)", (x, g) -> x.goneFor(g, 1));
        Edge.badForNobody(t, "goneFor(.., 40)", (x, g) -> x.goneFor(g, 40));
    }
}
