import java.util.List;

/** Edges of promise 30: prove. */
final class Promise30 {
    private Promise30() {
    }

    /** "n COURSES (1 to 10): how many": each n, and just so many ROWS. */
    static void oneToTen(Due t) {
        KinCutlery x = Edge.feasted("clerk with 1 gone 5;clerk with 0 gone 24;salt 1;");
        for (int n = 1; n <= 10; n++) {
            t.due("prove(0, " + n + ")", x.prove(0, n), n);
            t.due("many(4)", x.many(4), n);
            t.due("the last ROW", x.row(n - 1, 0), 5 + n);
            t.due("none behind it", x.row(n, 0), Edge.NO_ROW);
        }
    }

    /** The ROWS before are gone: fewer are fewer. */
    static void fewerThanBefore(Due t) {
        KinCutlery x = Edge.girls(9);
        x.prove(0, 10);
        x.alterRow(0, 0, 1);
        t.due("prove(7, 1)", x.prove(7, 1), 1);
        t.due("many(4)", x.many(4), 1);
        int[] row = {99, 1, 9};
        for (int what = 0; what < 3; what++) {
            t.due("row(0, " + what + ")", x.row(0, what), row[what]);
        }
        t.due("row(1, 0)", x.row(1, 0), Edge.NO_ROW);
    }

    /** "tried": ROWS alone are others behind it. */
    static void rowsAloneChange(Due t) {
        for (int g = 0; g < 8; g++) {
            KinCutlery x = Edge.full();
            t.due("prove(" + g + ", 10)", x.prove(g, 10), 10);
            Edge.same(t, "prove", butRows(Edge.seen(x)), butRows(Edge.seen(Edge.full())));
        }
    }

    private static List<String> butRows(List<String> seen) {
        seen.removeIf(line -> line.startsWith("row(") || line.startsWith("many(4)"));
        return seen;
    }

    /** Of one that is DROWNED, too: it stays as it is. */
    static void drowned(Due t) {
        KinCutlery x = Edge.feasted("girl with 0 gone 50 drowned;");
        t.due("prove(0, 10)", x.prove(0, 10), 10);
        for (int i = 0; i < 10; i++) {
            t.due("GONE", x.row(i, 0), 50);
            t.due("TELLS", x.row(i, 1), 0);
            t.due("TOLD", x.row(i, 2), 0);
        }
    }

    /** BAD, and the ROWS that were stay. */
    static void otherNumbersAreBad(Due t) {
        Edge.badBeyond(t, Edge::few, "prove(0, ..)", 1, 10, (x, n) -> x.prove(0, n));
    }

    static void noSuchOneIsBad(Due t) {
        Edge.badForNobody(t, "prove(.., 1)", (x, g) -> x.prove(g, 1));
        Edge.badForNobody(t, "prove(.., 10)", (x, g) -> x.prove(g, 10));
    }
}
