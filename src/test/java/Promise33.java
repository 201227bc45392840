/** Edges of promise 33: judge. */
final class Promise33 {
    private Promise33() {
    }

    private static KinCutlery proven(int n) {
        KinCutlery x = Edge.girls(9);
        x.prove(7, n);
        return x;
    }

    /** "0 all is right": by one ROW and by ten. */
    static void allRight(Due t) {
        Edge.unchanged(t, () -> proven(1), "judge(7)", 0, x -> x.judge(7));
        Edge.unchanged(t, () -> proven(10), "judge(7)", 0, x -> x.judge(7));
    }

    /** "(also if there are none)" */
    static void noRows(Due t) {
        Edge.unchanged(t, () -> Edge.girls(9), "judge(0)", 0, x -> x.judge(0));
        Edge.unchanged(t, () -> Edge.feasted("girl with 0 drowned;"), "judge(0)", 0, x -> x.judge(0));
    }

    /** "the first ROW that isn't, and 1 more": each of ten, by each number, by 1 more and 1 less. */
    static void eachRow(Due t) {
        KinCutlery x = proven(10);
        for (int i = 0; i < 10; i++) {
            for (int what = 0; what < 3; what++) {
                int was = x.row(i, what);
                x.alterRow(i, what, was + 1);
                t.due("1 more in ROW " + i, x.judge(7), i + 1);
                x.alterRow(i, what, was - 1);
                t.due("1 less in ROW " + i, x.judge(7), i + 1);
                x.alterRow(i, what, was);
            }
        }
        t.due("all right again", x.judge(7), 0);
    }

    /** "the first": of two, of all. */
    static void theFirstOfSeveral(Due t) {
        KinCutlery x = proven(10);
        for (int i = 9; i >= 0; i--) {
            x.alterRow(i, i % 3, Edge.LEAST);
            t.due("from ROW " + i + " on", x.judge(7), i + 1);
        }
    }

    /** An altered ROW is compared as it is, but the next goes on from how it must be. */
    static void wrongRowsDoNotGoOn(Due t) {
        KinCutlery x = proven(3);
        x.alterRow(0, 2, 0);
        t.due("the first", x.judge(7), 1);
        x.alterRow(0, 2, 9);
        t.due("none", x.judge(7), 0);
    }

    /** "from how it is now": other ROWS are due behind a COURSE. */
    static void fromHowItIsNow(Due t) {
        KinCutlery x = proven(10);
        x.courses(1);
        t.due("judge(7)", x.judge(7), 1);
        x.feast();
        x.guest(0, 0);
        t.due("no ROWS behind feast()", x.judge(0), 0);
    }

    /** ROWS of one, taken as those of another. */
    static void asThoseOfAnother(Due t) {
        KinCutlery x = proven(10);
        t.due("the first tells 2 at first", x.judge(0), 1);
        t.due("the sixth tells 2 behind 6, as the seventh behind 7, the eighth behind 8", x.judge(6), 7);
        t.due("the one before it", x.judge(5), 6);
    }

    static void noSuchOneIsBad(Due t) {
        Edge.badForNobody(t, "judge(..)", (x, g) -> x.judge(g));
    }

    /** BAD, too, if there are no ROWS. */
    static void noSuchOneAndNoRows(Due t) {
        Edge.badBeyond(t, () -> Edge.girls(9), "judge(..) without ROWS", 0, 7, (x, g) -> x.judge(g));
        Edge.unchanged(t, KinCutlery::new, "judge(0)", Edge.BAD, x -> x.judge(0));
    }
}
