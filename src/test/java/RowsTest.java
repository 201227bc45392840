/** Promises 30 to 33: prove, row, alterRow, judge. */
public final class RowsTest {
    private static final Due T = new Due();
    private static final int LEAST = Integer.MIN_VALUE, MOST = Integer.MAX_VALUE;

    public static void main(String[] args) {
        KinCutlery x = new KinCutlery();
        T.due("judge of nobody", x.judge(0), -1);
        T.due("alterRow of none", x.alterRow(0, 0, 0), -9);
        x.guest(0, 0);
        x.guest(5, 1);
        T.due("judge without ROWS", x.judge(0), 0);
        int[][] bad = {{2, 1}, {-1, 1}, {0, 0}, {0, 11}, {0, -1}, {LEAST, 1}, {MOST, 1}, {0, LEAST}, {0, MOST}};
        for (int[] b : bad) {
            T.due("prove(" + b[0] + ", " + b[1] + ")", x.prove(b[0], b[1]), -1);
        }
        T.due("no ROWS", x.many(4), 0);
        T.due("prove(0, 6)", x.prove(0, 6), 6);
        int[][] want = {{4, 0, 0}, {8, 0, 0}, {12, 0, 0}, {16, 0, 0}, {10, 1, 2}, {14, 1, 2}};
        for (int i = 0; i < want.length; i++) {
            for (int what = 0; what < 3; what++) {
                T.due("row(" + i + ", " + what + ")", x.row(i, what), want[i][what]);
            }
        }
        int[][] none = {{-1, 0}, {6, 0}, {0, -1}, {0, 3}, {LEAST, 0}, {MOST, 0}, {0, LEAST}, {0, MOST}};
        for (int[] b : none) {
            T.due("row(" + b[0] + ", " + b[1] + ")", x.row(b[0], b[1]), -9);
            T.due("alterRow(" + b[0] + ", " + b[1] + ", 5)", x.alterRow(b[0], b[1], 5), -9);
        }
        T.due("nothing changed", x.state(0) + x.of(0, 2), 0);
        judging(x);
        T.end();
    }

    private static void judging(KinCutlery x) {
        T.due("all right", x.judge(0), 0);
        T.due("of the other the first four only", x.judge(1), 5);
        T.due("judge(2)", x.judge(2), -1);
        T.due("judge(-1)", x.judge(-1), -1);
        for (int i = 5; i >= 0; i--) {
            for (int what = 0; what < 3; what++) {
                int was = x.row(i, what);
                T.due("alter", x.alterRow(i, what, LEAST), was);
                T.due("it is altered", x.row(i, what), LEAST);
                T.due("the first wrong one", x.judge(0), i + 1);
                T.due("alter back", x.alterRow(i, what, was), LEAST);
                T.due("right again", x.judge(0), 0);
            }
        }
        x.alterRow(5, 0, 1);
        x.alterRow(2, 2, 1);
        T.due("the first of two", x.judge(0), 3);
        T.due("fewer ROWS", x.prove(0, 2), 2);
        T.due("many", x.many(4), 2);
        T.due("row beyond", x.row(2, 0), -9);
        x.courses(1);
        T.due("ROWS stay, but are wrong from here", x.judge(0), 1);
        T.due("row", x.row(0, 0), 4);
        T.due("prove(1, 10)", x.prove(1, 10), 10);
        T.due("right from here", x.judge(1), 0);
        x.keep();
        x.again();
        T.due("again leaves ROWS", x.many(4), 10);
        T.due("refused", x.prove(1, 11), -1);
        T.due("ROWS stay", x.many(4), 10);
    }
}
