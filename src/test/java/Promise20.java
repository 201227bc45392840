/** Edges of promise 20: whole. */
final class Promise20 {
    private Promise20() {
    }

    /** "a quotient of TOLD by 8 is more than now": by one part, from 7 to 8. */
    static void theEighthPartAlone(Due t) {
        int[] tolds = {7, 15, 999};
        for (int told : tolds) {
            Edge.unchanged(t, () -> Edge.feasted("girl with 7 gone 50;told " + told + ";"), "told " + told, 1, x -> x.whole());
        }
    }

    /** Seven parts are not enough: from 8 on to 15 it is no more. */
    static void sevenPartsAreNotEnough(Due t) {
        KinCutlery x = Edge.girls(7);
        t.due("breath 7", x.whole(), 2);
        x.set(Edge.BREATH, 8);
        t.due("breath 8", x.whole(), 1);
        x.give(7, 6);
        t.due("without the last piece", x.whole(), Edge.NONE);
    }

    /** As long as it can last. */
    static void theLongestWait(Due t) {
        Edge.unchanged(t, () -> Edge.feasted("clerk with 0;clerk with 1;clerk with 2;clerk with 3;clerk with 4;clerk with 5;"
            + "clerk with 6;clerk with 7;salt 1;breath 1;"), "whole()", 35, x -> x.whole());
    }

    /** "NONE: not by then." */
    static void notByThen(Due t) {
        Edge.unchanged(t, Edge::nobody, "nobody", Edge.NONE, x -> x.whole());
        Edge.unchanged(t, () -> Edge.girls(0), "no BREATH", Edge.NONE, x -> x.whole());
        Edge.unchanged(t, () -> Edge.feasted("girl with 7 gone 50 drowned;told 7;"), "DROWNED", Edge.NONE, x -> x.whole());
        Edge.unchanged(t, () -> Edge.feasted("girl with 0 gone 50;told 8;"), "one part", Edge.NONE, x -> x.whole());
    }
}
