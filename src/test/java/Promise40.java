/** Edges of promise 40: act. */
final class Promise40 {
    private Promise40() {
    }

    /** One of a KIND as number n that HOLDS a, on SHELF 0. */
    private static KinCutlery thing(int kind, int n, int a) {
        KinCutlery x = new KinCutlery();
        for (int g = 0; g < n; g++) {
            x.guest(Edge.GUEST, 0);
        }
        x.guest(kind, a);
        x.shelf(0, 0, n);
        return x;
    }

    private static void trace(Due t, KinCutlery x, int... bodies) {
        t.due("many(6)", x.many(6), bodies.length);
        for (int i = 0; i < bodies.length; i++) {
            t.due("trace(" + i + ")", x.trace(i), bodies[i]);
        }
        t.due("the end", x.trace(bodies.length), Edge.NONE);
    }

    /** Each ACT (0 to 3) of each KIND, of number 6 that HOLDS 4, with 5: parts(6) is -3 then. */
    static void eachActOfEachKind(Due t) {
        int[][] want = {
            {16, 4, -2, 4 ^ 210}, {16, 11, -2, 11 ^ 210}, {48, 36, -2, (36 ^ 210) + 3},
            {12, 7, -5 ^ 3, 7 ^ 210}, {-48, -102, -2, (-102 ^ 210) + 3}, {16, 4, 16, (4 ^ 210) * 4}};
        int[][][] bodies = {
            {{10}, {11, 10}, {12}, {13, 11, 10}},
            {{10}, {20, 11, 10}, {12}, {13, 20, 11, 10}},
            {{30, 10}, {11, 30, 10}, {12}, {31, 13, 11, 30, 10, 12}},
            {{51, 10}, {20, 11, 51, 10}, {50, 12}, {13, 20, 11, 51, 10}},
            {{40, 30, 10}, {41, 11, 40, 30, 10, 40, 30, 10}, {12}, {31, 13, 41, 11, 40, 30, 10, 40, 30, 10, 12}},
            {{10}, {11, 10}, {61, 12, 10}, {60, 13, 11, 10}}};
        for (int kind = 0; kind < 6; kind++) {
            KinCutlery x = thing(kind, 6, 4);
            for (int act = 0; act < 4; act++) {
                t.due("kind " + kind + " act " + act, x.act(0, act, 5), want[kind][act]);
                trace(t, x, bodies[kind][act]);
            }
        }
    }

    /** "ints that wrap": lifts of the greatest and the least int. */
    static void liftsWrap(Due t) {
        t.due("guest 0", thing(0, 0, 1).act(0, 0, Edge.MOST), -2);
        t.due("guest 0", thing(0, 0, 1).act(0, 0, Edge.LEAST), 0);
        t.due("guest 7", thing(0, 7, 1).act(0, 0, Edge.MOST), 5);
        t.due("actuary 7", thing(2, 7, 1).act(0, 0, Edge.MOST), 15);
        t.due("clerk 7", thing(4, 7, 1).act(0, 0, Edge.MOST), -15);
        t.due("heir 7 with 7", thing(3, 7, 7).act(0, 0, Edge.MOST), -2);
        t.due("actuary 0", thing(2, 0, 1).act(0, 0, 1 << 30), Edge.LEAST);
        t.due("clerk 0: the least stays the least", thing(4, 0, 1).act(0, 0, 1 << 30), Edge.LEAST);
    }

    /** "ints that wrap": cuts and tells. */
    static void cutsAndTellsWrap(Due t) {
        t.due("guest cuts", thing(0, 0, 7).act(0, 1, 1 << 30), Edge.MOST - 20);
        t.due("niece cuts", thing(1, 0, 0).act(0, 1, Edge.MOST), 5);
        t.due("girl tells", thing(5, 0, 0).act(0, 3, Edge.LEAST), 840);
        t.due("girl tells, times 4", thing(5, 0, 0).act(0, 3, 1 << 29), 840);
        t.due("guest tells", thing(0, 0, 0).act(0, 3, Edge.MOST), -2 ^ 210);
    }

    /** "x by (a - n), cut": towards 0, by the least and the greatest that there are. */
    static void partsAreCut(Due t) {
        t.due("7 by 7", thing(0, 0, 7).act(0, 2, 7), 1);
        t.due("6 by 7", thing(0, 0, 7).act(0, 2, 6), 0);
        t.due("-6 by 7", thing(0, 0, 7).act(0, 2, -6), 0);
        t.due("-13 by 7", thing(0, 0, 7).act(0, 2, -13), -1);
        t.due("13 by -7", thing(0, 7, 0).act(0, 2, 13), -1);
        t.due("-13 by -7", thing(0, 7, 0).act(0, 2, -13), 1);
        t.due("the least by 1", thing(0, 0, 1).act(0, 2, Edge.LEAST), Edge.LEAST);
        t.due("the least by -1 wraps", thing(0, 1, 0).act(0, 2, Edge.LEAST), Edge.LEAST);
        t.due("the greatest by -1", thing(0, 1, 0).act(0, 2, Edge.MOST), -Edge.MOST);
        t.due("heir: x * 2 wraps first", thing(3, 0, 2).act(0, 2, 1 << 30), -(1 << 30) ^ 3);
        t.due("heir by -1", thing(3, 1, 0).act(0, 2, 1 << 30), Edge.LEAST ^ 3);
        t.due("girl: and lifts(7)", thing(5, 7, 6).act(0, 2, Edge.LEAST), Edge.LEAST + 21);
    }

    /** "-15 if these are the same": number and piece, each of eight; x counts nothing, nor is 0 by 0 anything else. */
    static void partedBy0(Due t) {
        int[][] trace = {{12}, {12}, {12}, {50, 12}, {12}, {61, 12}};
        int[] xs = {0, 1, -1, Edge.LEAST, Edge.MOST};
        for (int kind = 0; kind < 6; kind++) {
            for (int n = 0; n < 8; n++) {
                KinCutlery x = thing(kind, n, n);
                for (int v : xs) {
                    t.due("kind " + kind + ", number " + n, x.act(0, 2, v), Edge.PARTED_BY_0);
                    trace(t, x, trace[kind]);
                }
            }
        }
    }

    /** "that is all that act() answers then": also where parts comes within another ACT; but not where it doesn't. */
    static void partedBy0Within(Due t) {
        KinCutlery actuary = thing(2, 3, 3);
        t.due("actuary tells", actuary.act(0, 3, 5), Edge.PARTED_BY_0);
        trace(t, actuary, 31, 13, 11, 30, 10, 12);
        KinCutlery clerk = thing(4, 0, 0);
        t.due("clerk tells", clerk.act(0, 3, 5), Edge.PARTED_BY_0);
        trace(t, clerk, 31, 13, 41, 11, 40, 30, 10, 40, 30, 10, 12);
        int[] kinds = {0, 1, 3, 5};
        int[] tells = {(10 - 0) ^ 210, 17 ^ 210, 17 ^ 210, (10 ^ 210) * 4};
        for (int i = 0; i < 4; i++) {
            t.due("kind " + kinds[i] + " tells", thing(kinds[i], 0, 0).act(0, 3, 5), tells[i]);
            t.due("kind " + kinds[i] + " lifts", thing(kinds[i], 0, 0).act(0, 0, 5), 10);
        }
    }

    /** An ACT may answer what looks like a refusal, -15 too. */
    static void answersAsLowAsRefusals(Due t) {
        t.due("guest lifts to -1", thing(0, 1, 0).act(0, 0, -1), -1);
        t.due("guest lifts to -15", thing(0, 1, 0).act(0, 0, -8), -15);
    }

    /** "0, and no TRACE then: no such SHELF" */
    static void noSuchShelf(Due t) {
        for (int s : Edge.beyond(0, 3)) {
            noAct(t, s, 0);
        }
    }

    /** "0, and no TRACE then: .. act" */
    static void noSuchAct(Due t) {
        for (int act : Edge.beyond(0, 3)) {
            noAct(t, 0, act);
        }
    }

    /** "0, and no TRACE then: .. nothing, a row": SHELF 2, SHELF 1. */
    static void nothingOrARow(Due t) {
        for (int act = 0; act < 4; act++) {
            noAct(t, 2, act);
            noAct(t, 1, act);
        }
    }

    private static void noAct(Due t, int shelf, int act) {
        String call = "act(" + shelf + ", " + act + ", 5)";
        KinCutlery x = Edge.few();
        t.due("a TRACE before", x.many(6) > 0 ? 1 : 0, 1);
        t.due(call, x.act(shelf, act, 5), 0);
        trace(t, x);
        KinCutlery y = Edge.few();
        y.act(2, 0, 0);
        Edge.same(t, call, Edge.seen(x), Edge.seen(y));
    }

    /** One that there isn't at the time is nothing. */
    static void noSuchOneAtTheTime(Due t) {
        KinCutlery x = Edge.nobody();
        t.due("act(0, 0, 5)", x.act(0, 0, 5), 0);
        trace(t, x);
    }

    /** An ACT changes THE TRACE alone. */
    static void theTraceAlone(Due t) {
        KinCutlery x = Edge.few();
        KinCutlery y = Edge.few();
        for (int act = 0; act < 4; act++) {
            x.act(3, act, 77);
        }
        y.act(3, 3, 0);
        Edge.same(t, "act", Edge.seen(x), Edge.seen(y));
    }

    /** Each SHELF, the first and the last; who is DROWNED acts, too. */
    static void eachShelf(Due t) {
        KinCutlery x = Edge.full();
        for (int s = 0; s < 4; s++) {
            x.shelf(s, 0, 7);
            t.due("act(" + s + ", 2, 30)", x.act(s, 2, 30), -10);
            trace(t, x, 12);
        }
        t.due("DROWNED", x.of(7, 4), 1);
    }
}
