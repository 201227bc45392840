/** Edges of promise 41: trace. */
final class Promise41 {
    private Promise41() {
    }

    /** The longest there is, of a clerk that tells: eleven bodies (so the first 30 are all). */
    private static KinCutlery longest() {
        KinCutlery x = Edge.few();
        x.act(3, 3, 9);
        return x;
    }

    static void theFirstAndTheLast(Due t) {
        int[] bodies = {31, 13, 41, 11, 40, 30, 10, 40, 30, 10, 12};
        for (int k = 0; k < bodies.length; k++) {
            int i = k;
            Edge.unchanged(t, Promise41::longest, "trace(" + i + ")", bodies[i], x -> x.trace(i));
        }
    }

    /** "NONE": beyond those that began; the 30 that may be kept, and more. */
    static void noSuchBody(Due t) {
        int[] none = {-1, 11, 12, 29, 30, 31, Edge.LEAST, Edge.MOST};
        for (int i : none) {
            Edge.unchanged(t, Promise41::longest, "trace(" + i + ")", Edge.NONE, x -> x.trace(i));
        }
    }

    /** "in the latest act()": a shorter one leaves nothing of a longer one. */
    static void theLatestAlone(Due t) {
        KinCutlery x = longest();
        x.act(0, 0, 1);
        t.due("trace(0)", x.trace(0), 10);
        for (int i = 1; i < 12; i++) {
            t.due("trace(" + i + ")", x.trace(i), Edge.NONE);
        }
        t.due("many(6)", x.many(6), 1);
    }

    /** No act() yet. */
    static void noActYet(Due t) {
        KinCutlery x = new KinCutlery();
        for (int i = -1; i <= 30; i++) {
            t.due("trace(" + i + ")", x.trace(i), Edge.NONE);
        }
    }

    /** Calls that are no act() leave it, feast() and again(), too. */
    static void otherCallsLeaveIt(Due t) {
        KinCutlery x = longest();
        x.courses(3);
        x.shelf(3, 2, 0);
        x.again();
        x.feast();
        x.feast();
        t.due("many(6)", x.many(6), 11);
        t.due("trace(10)", x.trace(10), 12);
    }
}
