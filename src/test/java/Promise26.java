/** Edges of promise 26: strangersFor. */
final class Promise26 {
    private Promise26() {
    }

    /** None are needed for what is TOLD already: v is TOLD, or less. */
    static void none(Due t) {
        int[] vs = {0, 1, 11, 12};
        for (int v : vs) {
            Edge.unchanged(t, Edge::nobody, "v " + v, 0, x -> x.strangersFor(1, v));
            Edge.unchanged(t, Edge::full, "v " + v, 0, x -> x.strangersFor(20, v));
        }
        Edge.unchanged(t, Edge::nobody, "v 13", Edge.NONE, x -> x.strangersFor(20, 13));
    }

    /** All eight, a set of 255; one part more goes round to the first. */
    static void allEight(Due t) {
        Edge.unchanged(t, () -> Edge.girls(9), "strangersFor(1, 8)", 255, x -> x.strangersFor(1, 8));
        Edge.unchanged(t, () -> Edge.girls(9), "strangersFor(1, 9)", 255, x -> x.strangersFor(1, 9));
        Edge.unchanged(t, () -> Edge.girls(9), "strangersFor(1, 7)", 127, x -> x.strangersFor(1, 7));
    }

    /** "TALE by n is v or more": just v by BREATH and n, and not 1 more. */
    static void justAsMuchAsCanBeTold(Due t) {
        KinCutlery x = Edge.girls(9);
        t.due("20 times 9", x.strangersFor(20, 180), 255);
        t.due("1 more", x.strangersFor(20, 181), Edge.NONE);
        t.due("1 times 9", x.strangersFor(1, 9), 255);
        t.due("1 more", x.strangersFor(1, 10), Edge.NONE);
        x.set(Edge.BREATH, 0);
        t.due("no BREATH", x.strangersFor(20, 1), Edge.NONE);
        t.due("no BREATH, nothing asked", x.strangersFor(20, 0), 0);
    }

    /** v counts from the first PART on, not from TOLD on: as much as can be told behind what is TOLD, round. */
    static void fromWhatIsToldOn(Due t) {
        KinCutlery x = Edge.feasted("girl with 4 gone 50;girl with 7 gone 50;girl with 0 gone 50;told 999;");
        t.due("what is TOLD", x.strangersFor(1, 999), 0);
        t.due("part 7", x.strangersFor(1, 1000), 2);
        t.due("part 0, round", x.strangersFor(1, 1001), 6);
        t.due("nobody has part 1", x.strangersFor(20, 1002), Edge.NONE);
        t.due("nothing like it", x.strangersFor(20, 99999), Edge.NONE);
        x.set(Edge.BREATH, 1);
        t.due("one at once", x.strangersFor(1, 1001), Edge.NONE);
        t.due("one by one", x.strangersFor(2, 1001), 6);
    }

    /** "v (0 to 99999)": the greatest, by no set. */
    static void theGreatestTale(Due t) {
        Edge.unchanged(t, () -> Edge.girls(9), "strangersFor(20, 99999)", Edge.NONE, x -> x.strangersFor(20, 99999));
    }

    /** "the set of fewest GUESTS": one of a great number rather than two of small ones. */
    static void fewestBeforeLeast(Due t) {
        // The first can't tell both: part 0 costs it, and part 1 is another's.
        KinCutlery x = Edge.feasted("guest with 0 gone 16;girl with 1 gone 50;girl with 0 gone 50;girl with 1 gone 50;");
        t.due("1 part", x.strangersFor(1, 1), 1);
        t.due("2 parts", x.strangersFor(1, 2), 3);
        // By 3 the first is 18: who tells again must be far enough; the eighth alone is.
        KinCutlery y = Edge.feasted("guest with 0;guest with 0;guest with 0;guest with 0;guest with 0;guest with 0;guest with 0;"
            + "girl with 0 gone 50;");
        t.due("the eighth alone", y.strangersFor(4, 1), 128);
        t.due("any", y.strangersFor(5, 1), 1);
    }

    /** "of several the least" */
    static void ofSeveralTheLeast(Due t) {
        for (int g = 0; g < 8; g++) {
            KinCutlery x = Edge.girls(9);
            for (int i = 0; i < 8; i++) {
                x.give(i, i < g ? 1 : 0);
            }
            t.due("from " + g + " on", x.strangersFor(1, 1), 1 << g);
        }
    }

    /** "were all others DROWNED now": who is DROWNED now stays so in any set. */
    static void theDrownedAreNoHelp(Due t) {
        Edge.unchanged(t, () -> Edge.feasted("girl with 0 gone 50 drowned;girl with 0 gone 50;"), "the other", 2, x -> x.strangersFor(1, 1));
        Edge.unchanged(t, () -> Edge.feasted("girl with 0 gone 50 drowned;"), "nobody", Edge.NONE, x -> x.strangersFor(20, 1));
    }

    /** "n (1 to 20)": behind as many, and not behind fewer. */
    static void behindAsMany(Due t) {
        KinCutlery x = Edge.feasted("clerk with 0 gone 8;salt 1;");
        t.due("by 19", x.strangersFor(19, 1), Edge.NONE);
        t.due("by 20", x.strangersFor(20, 1), 1);
    }

    static void otherNumbersOfCoursesAreBad(Due t) {
        for (int n : Edge.beyond(1, 20)) {
            Edge.unchanged(t, Edge::few, "strangersFor(" + n + ", 0)", Edge.BAD, x -> x.strangersFor(n, 0));
            Edge.unchanged(t, Edge::nobody, "strangersFor(" + n + ", 99999)", Edge.BAD, x -> x.strangersFor(n, 99999));
        }
    }

    static void otherTalesAreBad(Due t) {
        for (int v : Edge.beyond(0, 99999)) {
            if (v < 0 || v > 99999) {
                Edge.unchanged(t, Edge::few, "strangersFor(1, " + v + ")", Edge.BAD, x -> x.strangersFor(1, v));
                Edge.unchanged(t, Edge::nobody, "strangersFor(20, " + v + ")", Edge.BAD, x -> x.strangersFor(20, v));
            }
        }
    }
}
