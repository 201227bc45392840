/** Edges of promise 42: many. */
final class Promise42 {
    private Promise42() {
    }

    static void noSuchWhatIsBad(Due t) {
        Edge.badBeyond(t, Edge::few, "many(..)", 0, 6, (x, what) -> x.many(what));
    }

    static void nothingChanges(Due t) {
        int[] want = {8, 2, Edge.full().many(2), Edge.full().many(3), 4, 27, Edge.full().many(6)};
        for (int w = 0; w < 7; w++) {
            int what = w;
            Edge.unchanged(t, Edge::full, "many(" + what + ")", want[what], x -> x.many(what));
        }
    }

    /** As few as there can be. */
    static void none(Due t) {
        KinCutlery x = new KinCutlery();
        for (int what = 0; what < 7; what++) {
            t.due("many(" + what + ")", x.many(what), 0);
        }
    }

    /** As many as there can be: eight, eight, eight, eight, ten, two hundred. */
    static void asManyAsThereCanBe(Due t) {
        KinCutlery x = Edge.girls(9);
        x.courses(1);
        t.due("GUESTS", x.many(0), 8);
        t.due("none DROWNED", x.many(1), 0);
        t.due("all told", x.many(2), 8);
        t.due("all pieces", x.many(3), 8);
        for (int g = 0; g < 8; g++) {
            x.sink(g, 1, 1);
            t.due("DROWNED", x.many(1), g + 1);
            t.due("pieces", x.many(3), 7 - g);
        }
        t.due("the DROWNED told, too", x.many(2), 8);
        t.due("the DROWNED are GUESTS, too", x.many(0), 8);
        x.prove(0, 10);
        t.due("ROWS", x.many(4), 10);
        for (int i = 0; i < 25; i++) {
            x.feed(0, 8);
        }
        t.due("bytes", x.many(5), 200);
    }

    /** "pieces that somebody not DROWNED HOLDS": each counts once. */
    static void eachPieceOnce(Due t) {
        KinCutlery x = Edge.feasted("girl with 7;girl with 7;girl with 0;girl with 0 drowned;girl with 3 drowned;");
        t.due("many(3)", x.many(3), 2);
        x.sink(2, 1, 1);
        t.due("many(3)", x.many(3), 1);
        x.sink(0, 1, 1);
        t.due("the other still HOLDS it", x.many(3), 1);
        x.sink(1, 1, 1);
        t.due("many(3)", x.many(3), 0);
    }

    /** "those that told any PART": not as many as PARTS. */
    static void tellersNotParts(Due t) {
        KinCutlery x = Edge.feasted("girl with 0 gone 50;girl with 1;");
        t.due("none yet", x.many(2), 0);
        x.courses(1);
        t.due("one", x.many(2), 1);
        x.give(0, 1);
        x.courses(1);
        t.due("TELLS", x.of(0, 3), 2);
        t.due("still one", x.many(2), 1);
        x.keep();
        x.feast();
        t.due("none", x.many(2), 0);
        x.again();
        t.due("one", x.many(2), 1);
    }
}
