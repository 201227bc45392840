/** Edges of promise 13: seed. */
final class Promise13 {
    private Promise13() {
    }

    /** "z becomes v: what it was": any int, and what it was may look like a refusal. */
    static void anyInt(Due t) {
        KinCutlery x = new KinCutlery();
        int was = 1;
        int[] ints = {0, -1, -2, -3, Edge.LEAST, Edge.MOST, Edge.LEAST, 1, 1};
        for (int v : ints) {
            t.due("seed(" + v + ")", x.seed(v), was);
            was = v;
        }
    }

    /** z alone is another. */
    static void nothingElseChanges(Due t) {
        KinCutlery x = Edge.full();
        int was = x.seed(Edge.LEAST);
        x.seed(was);
        Edge.same(t, "seed", Edge.seen(x), Edge.seen(Edge.full()));
    }
}
