/** Edges of promise 22: pieceFor. */
final class Promise22 {
    private Promise22() {
    }

    /** The piece that is wanted, 0 to 7: NEXT. */
    static void eachPiece(Due t) {
        for (int told = 0; told < 8; told++) {
            int held = (told + 3) % 8;
            String text = "girl with " + held + " gone 50;told " + told + ";";
            Edge.unchanged(t, () -> Edge.feasted(text), "pieceFor(0, 1) by told " + told, told, x -> x.pieceFor(0, 1));
            Edge.unchanged(t, () -> Edge.feasted(text), "pieceFor(0, 40) by told " + told, told, x -> x.pieceFor(0, 40));
        }
    }

    /** "of several the least": 0, if none makes any difference, whatever it HOLDS. */
    static void ofSeveralTheLeast(Due t) {
        for (int held = 0; held < 8; held++) {
            String with = "girl with " + held + " gone 50";
            t.due("DROWNED", Edge.feasted(with + " drowned;").pieceFor(0, 40), 0);
            t.due("no BREATH", Edge.feasted(with + ";breath 0;").pieceFor(0, 40), 0);
            t.due("not far enough", Edge.feasted("guest with " + held + ";told 5;").pieceFor(0, 4), 0);
        }
        KinCutlery x = Edge.feasted("girl with 5 gone 50;girl with 1 gone 50;told 1;");
        t.due("2 behind 1, though it HOLDS 5", x.pieceFor(0, 1), 2);
    }

    /** "(1 to 40)": by 1 it isn't far enough, by more it is. */
    static void fromWhenItIsFarEnough(Due t) {
        KinCutlery x = Edge.feasted("clerk with 0;salt 1;told 6;");
        t.due("by 27", x.pieceFor(0, 27), 0);
        t.due("by 28", x.pieceFor(0, 28), 6);
        t.due("by 40", x.pieceFor(0, 40), 6);
    }

    static void otherNumbersAreBad(Due t) {
        Edge.badBeyond(t, Edge::few, "pieceFor(0, ..)", 1, 40, (x, n) -> x.pieceFor(0, n));
    }

    static void noSuchOneIsBad(Due t) {
        Edge.badForNobody(t, "pieceFor(.., 1)", (x, g) -> x.pieceFor(g, 1));
        Edge.badForNobody(t, "pieceFor(.., 40)", (x, g) -> x.pieceFor(g, 40));
    }
}
