/** Edges of promise 4: set. */
final class Promise04 {
    static final int[] FIRST = {3, 2, 90, 20};
    static final int[] MOST = {9, 9, 99, 99};

    private Promise04() {
    }

    /** "BREATH (0 to 9 ..), SALT (0 to 9 ..), DEPTH (0 to 99 ..), SLIP (0 to 99 of a hundred ..)": what it was. */
    static void leastAndGreatestOfEachLaw(Due t) {
        for (int law = 0; law < 4; law++) {
            KinCutlery x = new KinCutlery();
            int was = FIRST[law];
            int[] allowed = {0, 1, MOST[law] - 1, MOST[law], 0, MOST[law]};
            for (int v : allowed) {
                t.due("set(" + law + ", " + v + ")", x.set(law, v), was);
                t.due("lawOf(" + law + ")", x.lawOf(law), v);
                was = v;
            }
            for (int other = 0; other < 4; other++) {
                t.due("the other LAWS stay", x.lawOf(other), other == law ? MOST[law] : FIRST[other]);
            }
        }
    }

    static void numbersBeyondAreBad(Due t) {
        for (int l = 0; l < 4; l++) {
            int law = l;
            for (int v : Edge.beyond(0, MOST[law])) {
                Edge.unchanged(t, Edge::few, "set(" + law + ", " + v + ")", Edge.BAD, x -> x.set(law, v));
            }
        }
    }

    static void noSuchLawIsBad(Due t) {
        for (int law : Edge.beyond(0, 3)) {
            Edge.unchanged(t, Edge::few, "set(" + law + ", 1)", Edge.BAD, x -> x.set(law, 1));
            Edge.unchanged(t, Edge::few, "set(" + law + ", -1)", Edge.BAD, x -> x.set(law, -1));
        }
    }

    /** A LAW that becomes what it is. */
    static void theSameAgain(Due t) {
        Edge.unchanged(t, Edge::few, "set(1, 7)", 7, x -> x.set(Edge.SALT, 7));
    }
}
