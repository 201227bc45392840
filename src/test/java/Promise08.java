/** Edges of promise 8: does. */
final class Promise08 {
    private Promise08() {
    }

    private static void does(Due t, KinCutlery x, int takes, int needs, int costs) {
        t.due("does(0, 0)", x.does(0, 0), 1000 + takes);
        t.due("does(0, 1)", x.does(0, 1), 1000 + needs);
        t.due("does(0, 2)", x.does(0, 2), 1000 + costs);
    }

    /** Each KIND by the least and the greatest SALT; none HOLDS NEXT. */
    static void leastAndGreatestSalt(Due t) {
        int[][] without = {{4, 20, 10}, {4, 15, 10}, {2, 30, 15}, {8, 15, 5}, {2, 30, 15}, {4, 10, 0}};
        int[][] most = {{4, 20, 10}, {13, 15, 10}, {2, 30, 15}, {26, 6, 5}, {-7, 30, 6}, {4, 10, 0}};
        for (int kind = 0; kind < 6; kind++) {
            KinCutlery x = new KinCutlery();
            x.guest(kind, 1);
            x.set(Edge.SALT, 0);
            does(t, x, without[kind][0], without[kind][1], without[kind][2]);
            x.set(Edge.SALT, 9);
            does(t, x, most[kind][0], most[kind][1], most[kind][2]);
        }
    }

    /** "clerk: as actuary, less SALT (so it may be below 0)": 1, 0, -1 by SALT 1, 2, 3; 1000 keeps it from a refusal. */
    static void clerkTakesLessThanNothing(Due t) {
        KinCutlery x = new KinCutlery();
        x.guest(Edge.CLERK, 0);
        for (int salt = 0; salt <= 9; salt++) {
            x.set(Edge.SALT, salt);
            does(t, x, 2 - salt, 30, 15 - salt);
        }
    }

    /** "clerk: as actuary, less a tenth of GONE (cut)" */
    static void clerkNeedsATenthOfGoneLess(Due t) {
        KinCutlery x = new KinCutlery();
        x.guest(Edge.CLERK, 0);
        for (int gone = 0; gone <= 99; gone++) {
            x.sink(0, 0, gone);
            t.due("gone " + gone, x.does(0, 1), 1030 - gone / 10);
        }
    }

    /** GONE counts for a clerk alone. */
    static void othersNeedTheSame(Due t) {
        int[] needs = {20, 15, 30, 13, 21, 10};
        for (int kind = 0; kind < 6; kind++) {
            KinCutlery x = new KinCutlery();
            x.guest(kind, 0);
            x.sink(0, 0, 99);
            t.due("kind " + kind, x.does(0, 1), 1000 + needs[kind]);
        }
    }

    /** "girl: as guest, and 5, if what it HOLDS is NEXT": TOLD's rest by 8, round. */
    static void girlTakesMoreIfItIsHers(Due t) {
        int[] tolds = {0, 1, 7, 8, 9, 15, 999};
        for (int told : tolds) {
            KinCutlery x = Edge.feasted("girl with 0;told " + told + ";");
            for (int piece = 0; piece < 8; piece++) {
                x.give(0, piece);
                t.due("told " + told + ", piece " + piece, x.does(0, 0), piece == told % 8 ? 1009 : 1004);
            }
        }
    }

    /** Who is DROWNED would do the same. */
    static void drowned(Due t) {
        KinCutlery x = Edge.feasted("girl with 0 gone 99 drowned;");
        does(t, x, 9, 10, 0);
    }

    static void noSuchOneIsBad(Due t) {
        Edge.badForNobody(t, "does(.., 0)", (x, g) -> x.does(g, 0));
        Edge.badForNobody(t, "does(.., 2)", (x, g) -> x.does(g, 2));
    }

    static void noSuchWhatIsBad(Due t) {
        Edge.badBeyond(t, Edge::few, "does(0, ..)", 0, 2, (x, what) -> x.does(0, what));
    }

    static void nothingChanges(Due t) {
        Edge.unchanged(t, Edge::few, "does(2, 0)", 995, x -> x.does(2, 0));
    }
}
