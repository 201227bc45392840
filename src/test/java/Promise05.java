/** Edges of promise 5: lawOf. */
final class Promise05 {
    private Promise05() {
    }

    static void eachLaw(Due t) {
        int[] want = {2, 7, 88, 14};
        for (int l = 0; l < 4; l++) {
            int law = l;
            Edge.unchanged(t, Edge::few, "lawOf(" + law + ")", want[law], x -> x.lawOf(law));
        }
    }

    static void noSuchLawIsBad(Due t) {
        Edge.badBeyond(t, Edge::few, "lawOf(..)", 0, 3, (x, law) -> x.lawOf(law));
    }
}
