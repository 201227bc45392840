/** Edges of promise 34: minds. */
final class Promise34 {
    private Promise34() {
    }

    /** "n numbers (0 to 8)": none change nothing, from any i that is allowed. */
    static void none(Due t) {
        for (int k = 0; k <= 5; k++) {
            int i = k;
            Edge.unchanged(t, Edge::few, "minds(0, " + i + ", 2, 0)", 0, x -> x.minds(0, i, 2, 0));
        }
        KinCutlery x = Edge.few();
        x.sheet(0, 0, 0);
        t.due("of a SHEET of none", x.minds(0, 0, 0, 0), 0);
    }

    /** Eight for eight; each of its own. */
    static void eight(Due t) {
        KinCutlery x = Edge.girls(3);
        x.sheet(1, 0, 8);
        for (int i = 0; i < 8; i++) {
            x.put(1, i, 10 + i);
        }
        t.due("minds(1, 0, 0, 8)", x.minds(1, 0, 0, 8), 8);
        for (int g = 0; g < 8; g++) {
            t.due("GONE of " + g, x.of(g, 2), 10 + g);
        }
    }

    /** "from i on", "from one on": the last items for the last GUESTS. */
    static void theLastForTheLast(Due t) {
        KinCutlery x = Edge.girls(3);
        x.sheet(1, 0, 40);
        x.put(1, 38, 38);
        x.put(1, 39, 39);
        t.due("minds(1, 38, 6, 2)", x.minds(1, 38, 6, 2), 2);
        t.due("GONE of 5", x.of(5, 2), 99);
        t.due("GONE of 6", x.of(6, 2), 38);
        t.due("GONE of 7", x.of(7, 2), 39);
        t.due("minds(1, 39, 7, 1)", x.minds(1, 39, 7, 1), 1);
        t.due("GONE of 7", x.of(7, 2), 39);
        t.due("minds(1, 39, 0, 1)", x.minds(1, 39, 0, 1), 1);
        t.due("GONE of 0", x.of(0, 2), 39);
        t.due("GONE of 1", x.of(1, 2), 99);
    }

    /** "(held to 0 to 99)": what bytes can be. */
    static void held(Due t) {
        int[][] bytes = {{-128, 0}, {-1, 0}, {0, 0}, {1, 1}, {98, 98}, {99, 99}, {100, 99}, {127, 99}, {128, 0}, {255, 0}, {256, 0}};
        for (int[] b : bytes) {
            KinCutlery x = Edge.feasted("girl with 0 gone 50;");
            x.sheet(3, 0, 1);
            x.put(3, 0, b[0]);
            t.due("minds of " + b[0], x.minds(3, 0, 0, 1), 1);
            t.due("GONE", x.of(0, 2), b[1]);
        }
    }

    /** GONE alone is another: the DROWNED stay DROWNED, who is too deep isn't DROWNED by it. */
    static void goneAlone(Due t) {
        KinCutlery x = Edge.feasted("girl with 3 gone 50 drowned;girl with 3;depth 0;");
        x.sheet(0, 0, 2);
        x.put(0, 0, 7);
        x.put(0, 1, 99);
        t.due("minds", x.minds(0, 0, 0, 2), 2);
        t.due("DROWNED", x.state(3), 1);
        t.due("GONE together", x.state(4), 106);
        t.due("HOLDS", x.of(1, 1), 3);
        t.due("the SHEET stays", x.item(0, 0, 1), 99);
    }

    static void noSuchSheetIsBad(Due t) {
        Edge.badBeyond(t, Edge::few, "minds(.., 0, 0, 1)", 0, 3, (x, s) -> x.minds(s, 0, 0, 1));
    }

    /** "BAD: no such .. one": also for n 0. */
    static void noSuchOneIsBad(Due t) {
        Edge.badForNobody(t, "minds(0, 0, .., 0)", (x, g) -> x.minds(0, 0, g, 0));
        Edge.badForNobody(t, "minds(0, 0, .., 1)", (x, g) -> x.minds(0, 0, g, 1));
    }

    static void otherNumbersAreBad(Due t) {
        for (int n : Edge.beyond(0, 8)) {
            Edge.unchanged(t, Edge::full, "minds(0, 0, 0, " + n + ")", Edge.BAD, x -> x.minds(0, 0, 0, n));
            Edge.unchanged(t, Edge::full, "minds(0, 0, 7, " + n + ")", Edge.BAD, x -> x.minds(0, 0, 7, n));
        }
    }

    /** "or n goes beyond the last one": from each as many as there are, and 1 more. */
    static void beyondTheLastOne(Due t) {
        for (int k = 0; k < 3; k++) {
            int g = k;
            KinCutlery y = Edge.few();
            t.due("as many", y.minds(0, 0, g, 3 - g), 3 - g);
            Edge.unchanged(t, Edge::few, "1 more from " + g, Edge.BAD, x -> x.minds(0, 0, g, 4 - g));
            Edge.unchanged(t, Edge::few, "8 from " + g, Edge.BAD, x -> x.minds(0, 0, g, 8));
        }
        for (int k = 1; k < 8; k++) {
            int g = k;
            Edge.unchanged(t, Edge::full, "1 more from " + g, Edge.BAD, x -> x.minds(0, 0, g, 9 - g));
        }
    }

    /** "-11": a SHEET that is missing. */
    static void missingSheet(Due t) {
        Edge.unchanged(t, Edge::few, "minds(2, 0, 0, 0)", Edge.NOTHING, x -> x.minds(2, 0, 0, 0));
        Edge.unchanged(t, Edge::few, "minds(2, 0, 0, 3)", Edge.NOTHING, x -> x.minds(2, 0, 0, 3));
    }

    /** "-13": a SHEET of shorts, ints or longs, though it have no items or n be 0. */
    static void notBytes(Due t) {
        Edge.unchanged(t, Edge::few, "minds(1, 0, 0, 1)", Edge.OTHER_SORT, x -> x.minds(1, 0, 0, 1));
        Edge.unchanged(t, Edge::few, "minds(3, 0, 0, 0)", Edge.OTHER_SORT, x -> x.minds(3, 0, 0, 0));
        for (int sort = 1; sort < 4; sort++) {
            KinCutlery x = Edge.few();
            x.sheet(0, sort, 0);
            t.due("of sort " + sort, x.minds(0, 0, 0, 0), Edge.OTHER_SORT);
        }
    }

    /** "-12: i is not 0 to how many items there are (also for n 0)" */
    static void outside(Due t) {
        for (int i : Edge.beyond(0, 5)) {
            Edge.unchanged(t, Edge::few, "minds(0, " + i + ", 0, 0)", Edge.OUTSIDE, x -> x.minds(0, i, 0, 0));
            Edge.unchanged(t, Edge::few, "minds(0, " + i + ", 0, 3)", Edge.OUTSIDE, x -> x.minds(0, i, 0, 3));
        }
        KinCutlery x = Edge.few();
        x.sheet(0, 0, 0);
        t.due("of none", x.minds(0, 1, 0, 0), Edge.OUTSIDE);
        t.due("of none", x.minds(0, 0, 0, 1), Edge.OUTSIDE);
    }

    /** "or there are not so many": just so many, and 1 fewer. */
    static void notSoMany(Due t) {
        for (int k = 1; k <= 3; k++) {
            int n = k;
            KinCutlery y = Edge.few();
            t.due("just " + n, y.minds(0, 5 - n, 0, n), n);
            Edge.unchanged(t, Edge::few, "1 fewer than " + n, Edge.OUTSIDE, x -> x.minds(0, 6 - n, 0, n));
        }
    }

    /** "of several the first named": BAD, -11, -13, -12. */
    static void theFirstNamed(Due t) {
        Edge.unchanged(t, Edge::few, "BAD before -11", Edge.BAD, x -> x.minds(2, 0, 3, 0));
        Edge.unchanged(t, Edge::few, "BAD before -11", Edge.BAD, x -> x.minds(2, 9, 0, 4));
        Edge.unchanged(t, Edge::few, "BAD before -13", Edge.BAD, x -> x.minds(1, 0, 0, 9));
        Edge.unchanged(t, Edge::few, "BAD before -12", Edge.BAD, x -> x.minds(0, -1, 0, -1));
        Edge.unchanged(t, Edge::few, "BAD before -12", Edge.BAD, x -> x.minds(0, 6, 1, 3));
        Edge.unchanged(t, Edge::few, "-11 before -12", Edge.NOTHING, x -> x.minds(2, -1, 0, 1));
        Edge.unchanged(t, Edge::few, "-13 before -12", Edge.OTHER_SORT, x -> x.minds(1, 4, 0, 1));
        Edge.unchanged(t, Edge::few, "-13 before -12", Edge.OTHER_SORT, x -> x.minds(3, Edge.LEAST, 0, 0));
    }
}
