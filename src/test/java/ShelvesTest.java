/** Promises 38 to 41: shelf, taken, act, trace. */
public final class ShelvesTest {
    private static final Due T = new Due();
    private static final int LEAST = Integer.MIN_VALUE, MOST = Integer.MAX_VALUE;

    public static void main(String[] args) {
        shelves();
        kinds();
        rows();
        acts();
        partedBy0();
        noAct();
        wrapping();
        T.end();
    }

    private static KinCutlery six() {
        KinCutlery x = new KinCutlery();
        for (int kind = 0; kind < 6; kind++) {
            x.guest(kind, 7 - kind);
        }
        return x;
    }

    private static void shelves() {
        KinCutlery x = six();
        int[] none = {-1, 4, LEAST, MOST};
        for (int s : none) {
            T.due("shelf " + s, x.shelf(s, 2, 0), -1);
            T.due("taken " + s, x.taken(s, 0), -1);
        }
        int[] noWhat = {-1, 3, LEAST, MOST};
        for (int what : noWhat) {
            T.due("what " + what, x.shelf(0, what, 0), -1);
        }
        int[] nobody = {-1, 6, LEAST, MOST};
        for (int g : nobody) {
            T.due("guest " + g, x.shelf(0, 0, g), -1);
        }
        int[] noSheet = {-1, 4, LEAST, MOST};
        for (int s : noSheet) {
            T.due("sheet " + s, x.shelf(0, 1, s), -1);
        }
        T.due("holds nothing", x.taken(0, 0), -11);
        int[] noAs = {-1, 6, 9, 14, LEAST, MOST};
        for (int as : noAs) {
            T.due("as " + as, x.taken(0, as), -1);
        }
        T.due("a guest", x.shelf(3, 0, 5), 1);
        T.due("its number", x.taken(3, 5), 5);
        T.due("refused", x.shelf(3, 0, 6), -1);
        T.due("still there", x.taken(3, 0), 5);
        T.due("a missing sheet's row", x.shelf(3, 1, 0), 1);
        T.due("is nothing", x.taken(3, 10), -11);
        x.shelf(3, 0, 5);
        T.due("nothing, whatever n is", x.shelf(3, 2, LEAST), 1);
        T.due("nothing", x.taken(3, 5), -11);
    }

    private static void kinds() {
        boolean[][] under = {
            {true, false, false, false, false, false},
            {true, true, false, false, false, false},
            {true, false, true, false, false, false},
            {true, true, false, true, false, false},
            {true, false, true, false, true, false},
            {true, false, false, false, false, true},
        };
        KinCutlery x = six();
        for (int kind = 0; kind < 6; kind++) {
            x.shelf(1, 0, kind);
            for (int as = 0; as < 6; as++) {
                T.due("taken kind " + kind + " as " + as, x.taken(1, as), under[kind][as] ? kind : -13);
            }
            for (int as = 10; as < 14; as++) {
                T.due("a guest is no row", x.taken(1, as), -13);
            }
        }
        x.shelf(0, 0, 4);
        x.mind(4, 3);
        T.due("of its KIND now", x.taken(0, 1), 4);
        T.due("not of that it was", x.taken(0, 2), -13);
        Due.feastOn(x, "girl with 0;");
        T.due("no such one now", x.taken(0, 0), -11);
        for (int i = 1; i < 5; i++) {
            x.guest(5, i);
        }
        T.due("there is one again", x.taken(0, 5), 4);
    }

    private static void rows() {
        KinCutlery x = new KinCutlery();
        for (int sort = 0; sort < 4; sort++) {
            x.sheet(0, sort, 3 + sort);
            T.due("a row", x.shelf(2, 1, 0), 1);
            for (int as = 10; as < 14; as++) {
                T.due("row of sort " + sort + " as " + as, x.taken(2, as), as - 10 == sort ? 3 + sort : -13);
            }
            for (int as = 0; as < 6; as++) {
                T.due("a row is no guest", x.taken(2, as), -13);
            }
        }
        x.sheet(0, 0, 9);
        T.due("the row stays when its SHEET is another", x.taken(2, 13), 6);
        x.sheet(0, -1, 0);
        T.due("or missing", x.taken(2, 13), 6);
        x.sheet(1, 2, 0);
        x.shelf(2, 1, 1);
        T.due("a row of none", x.taken(2, 12), 0);
    }

    private static void act(KinCutlery x, int kind, int act, int want, int... trace) {
        String call = "kind " + kind + " act " + act;
        T.due(call, x.act(0, act, 5), want);
        for (int i = 0; i < trace.length; i++) {
            T.due(call + " trace " + i, x.trace(i), trace[i]);
        }
        T.due(call + " trace's end", x.trace(trace.length), -3);
        T.due(call + " many bodies", x.many(6), trace.length);
    }

    /** With n the number of the KIND and a 7 less n; x 5. */
    private static void acts() {
        KinCutlery x = six();
        x.shelf(0, 0, 0);
        act(x, 0, 0, 10, 10);
        act(x, 0, 1, -11, 11, 10);
        act(x, 0, 2, 0, 12);
        act(x, 0, 3, -11 ^ 210, 13, 11, 10);
        x.shelf(0, 0, 1);
        act(x, 1, 0, 11, 10);
        act(x, 1, 1, 0, 20, 11, 10);
        act(x, 1, 2, 1, 12);
        act(x, 1, 3, 210, 13, 20, 11, 10);
        x.shelf(0, 0, 2);
        act(x, 2, 0, 36, 30, 10);
        act(x, 2, 1, 21, 11, 30, 10);
        act(x, 2, 2, 1, 12);
        act(x, 2, 3, (21 ^ 210) - 0, 31, 13, 11, 30, 10, 12);
        x.shelf(0, 0, 3);
        act(x, 3, 0, 9, 51, 10);
        act(x, 3, 1, 4, 20, 11, 51, 10);
        act(x, 3, 2, 10 ^ 3, 50, 12);
        act(x, 3, 3, 4 ^ 210, 13, 20, 11, 51, 10);
        x.shelf(0, 0, 4);
        act(x, 4, 0, -42, 40, 30, 10);
        act(x, 4, 1, -42 - 9 - 30, 41, 11, 40, 30, 10, 40, 30, 10);
        act(x, 4, 2, -5, 12);
        act(x, 4, 3, (-81 ^ 210) + 4, 31, 13, 41, 11, 40, 30, 10, 40, 30, 10, 12);
        x.shelf(0, 0, 5);
        act(x, 5, 0, 15, 10);
        act(x, 5, 1, 9, 11, 10);
        act(x, 5, 2, -1 + 15, 61, 12, 10);
        act(x, 5, 3, (9 ^ 210) * 4, 60, 13, 11, 10);
        int[] noBody = {-1, 30, LEAST, MOST};
        for (int i : noBody) {
            T.due("trace(" + i + ")", x.trace(i), -3);
        }
        x.mind(5, 0);
        act(x, 0, 3, 9 ^ 210, 13, 11, 10);
    }

    private static void partedBy0() {
        KinCutlery x = six();
        for (int kind = 0; kind < 6; kind++) {
            x.give(kind, kind);
        }
        int[][] trace = {{12}, {12}, {12}, {50, 12}, {12}, {61, 12}};
        for (int kind = 0; kind < 6; kind++) {
            x.shelf(0, 0, kind);
            act(x, kind, 2, -15, trace[kind]);
        }
        x.shelf(0, 0, 2);
        act(x, 2, 3, -15, 31, 13, 11, 30, 10, 12);
        x.shelf(0, 0, 4);
        act(x, 4, 3, -15, 31, 13, 41, 11, 40, 30, 10, 40, 30, 10, 12);
        x.shelf(0, 0, 5);
        act(x, 5, 3, (0 ^ 210) * 4, 60, 13, 11, 10);
    }

    private static void noAct() {
        KinCutlery x = six();
        x.sheet(0, 0, 3);
        x.shelf(0, 0, 0);
        x.shelf(1, 1, 0);
        int[][] none = {{-1, 0}, {4, 0}, {0, -1}, {0, 4}, {1, 0}, {2, 0}, {LEAST, 0}, {MOST, 0}, {0, LEAST}, {0, MOST}};
        for (int[] n : none) {
            T.due("an act", x.act(0, 0, 1), 2);
            T.due("its trace", x.trace(0), 10);
            T.due("act(" + n[0] + ", " + n[1] + ", 1)", x.act(n[0], n[1], 1), 0);
            T.due("no trace", x.trace(0), -3);
            T.due("no bodies", x.many(6), 0);
        }
        x.act(0, 0, 1);
        x.feast();
        T.due("the trace stays", x.trace(0), 10);
        T.due("no such one now", x.act(0, 0, 1), 0);
        T.due("no trace", x.many(6), 0);
    }

    private static void wrapping() {
        KinCutlery x = new KinCutlery();
        x.guest(0, 1);
        x.guest(3, 0);
        x.shelf(0, 0, 0);
        x.shelf(1, 0, 1);
        T.due("lifts", x.act(0, 0, MOST), -2);
        T.due("cuts", x.act(0, 1, LEAST), -3);
        T.due("parts by 1", x.act(0, 2, LEAST), LEAST);
        T.due("the heir parts by -1", x.act(1, 2, 1 << 30), LEAST ^ 3);
        x.mind(1, 0);
        T.due("parts least by -1", x.act(1, 2, LEAST), LEAST);
        x.give(1, 3);
        T.due("cut towards 0", x.act(1, 2, -3), -1);
    }
}
