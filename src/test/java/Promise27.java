/** Edges of promise 27: fits. */
final class Promise27 {
    private Promise27() {
    }

    /** A girl far gone with a piece that isn't NEXT; SHEET 0 of a sort and so many items. */
    private static KinCutlery sheet(int sort, int... items) {
        KinCutlery x = Edge.feasted("girl with 4 gone 50;girl with 1 gone 50;told 8;depth 99;");
        x.sheet(0, sort, items.length);
        for (int i = 0; i < items.length; i++) {
            x.put(0, i, items[i]);
        }
        return x;
    }

    private static void fits(Due t, String name, KinCutlery x, int many, int least) {
        t.due(name + ": how many", x.fits(0, 0, 0), many);
        t.due(name + ": the least", x.fits(0, 0, 1), least);
    }

    /** No numbers, or any alone: all eight pieces, the least 0. */
    static void allEight(Due t) {
        for (int sort = 0; sort < 4; sort++) {
            fits(t, "no numbers", sheet(sort), 8, 0);
            fits(t, "any", sheet(sort, -1), 8, 0);
            fits(t, "forty times 0, where 8 are told", sheet(sort, new int[40]), 0, Edge.NONE);
        }
        int[] any = new int[40];
        java.util.Arrays.fill(any, -1);
        fits(t, "forty times any", sheet(0, any), 8, 0);
    }

    /** One, seven, none. */
    static void oneSevenNone(Due t) {
        for (int sort = 0; sort < 4; sort++) {
            fits(t, "with 0 two are told at once", sheet(sort, 10), 1, 0);
            fits(t, "with any other none", sheet(sort, 8), 7, 1);
            fits(t, "never one", sheet(sort, 9), 0, Edge.NONE);
            fits(t, "nor fewer than now", sheet(sort, 7), 0, Edge.NONE);
        }
    }

    /** "(NONE (what 1): none)": what 0 answers 0 then. */
    static void noneIsNoneByWhat1Alone(Due t) {
        Edge.unchanged(t, () -> sheet(1, 9), "fits(0, 0, 0)", 0, x -> x.fits(0, 0, 0));
        Edge.unchanged(t, () -> sheet(1, 9), "fits(0, 0, 1)", Edge.NONE, x -> x.fits(0, 0, 1));
    }

    /** "behind 1, 2, .. COURSES, .. one by one": the first and the last of forty count. */
    static void theFirstAndTheLastOfForty(Due t) {
        int[] items = new int[40];
        java.util.Arrays.fill(items, 8);
        fits(t, "8 forty times", sheet(2, items), 7, 1);
        items[39] = 9;
        fits(t, "9 at last", sheet(2, items), 0, Edge.NONE);
        items[39] = -1;
        fits(t, "any at last", sheet(2, items), 7, 1);
        items[0] = 9;
        fits(t, "9 at first", sheet(2, items), 0, Edge.NONE);
    }

    /** "(-1: any)": -1 as it is narrowed; -2 is no TOLD. */
    static void anyAsItIsNarrowed(Due t) {
        for (int sort = 0; sort < 4; sort++) {
            fits(t, "255 of sort " + sort, sheet(sort, 255), sort == 0 ? 8 : 0, sort == 0 ? 0 : Edge.NONE);
            fits(t, "65535 of sort " + sort, sheet(sort, 65535), sort < 2 ? 8 : 0, sort < 2 ? 0 : Edge.NONE);
            fits(t, "-2 of sort " + sort, sheet(sort, -2), 0, Edge.NONE);
            fits(t, "the least int of sort " + sort, sheet(sort, Edge.LEAST), 0, Edge.NONE);
            fits(t, "256 and 8 of sort " + sort, sheet(sort, 264), sort == 0 ? 7 : 0, sort == 0 ? 1 : Edge.NONE);
        }
    }

    /** Of one that is DROWNED, whatever it HOLDS: all eight or none. */
    static void drowned(Due t) {
        KinCutlery x = sheet(0, 8);
        x.sink(0, 1, 1);
        fits(t, "8", x, 8, 0);
        x.put(0, 0, 10);
        fits(t, "10", x, 0, Edge.NONE);
    }

    /** The greatest piece may be the least that fits. */
    static void thePieceOf7(Due t) {
        KinCutlery x = Edge.feasted("girl with 4 gone 50;told 7;");
        x.sheet(0, 0, 1);
        x.put(0, 0, 8);
        fits(t, "8", x, 1, 7);
    }

    /** SHEETS 0 to 3, each its own. */
    static void eachSheet(Due t) {
        KinCutlery x = Edge.feasted("girl with 4 gone 50;girl with 1 gone 50;told 8;depth 99;");
        int[] items = {10, 8, 9, -1};
        int[] many = {1, 7, 0, 8};
        for (int s = 0; s < 4; s++) {
            x.sheet(s, s, 1);
            x.put(s, 0, items[s]);
        }
        for (int s = 0; s < 4; s++) {
            t.due("fits(" + s + ", 0, 0)", x.fits(s, 0, 0), many[s]);
        }
    }

    static void noSuchSheetIsBad(Due t) {
        Edge.badBeyond(t, Edge::few, "fits(.., 0, 0)", 0, 3, (x, s) -> x.fits(s, 0, 0));
    }

    static void noSuchOneIsBad(Due t) {
        Edge.badForNobody(t, "fits(0, .., 0)", (x, g) -> x.fits(0, g, 0));
        Edge.badForNobody(t, "fits(0, .., 1)", (x, g) -> x.fits(0, g, 1));
    }

    static void noSuchWhatIsBad(Due t) {
        Edge.badBeyond(t, Edge::few, "fits(0, 0, ..)", 0, 1, (x, what) -> x.fits(0, 0, what));
    }

    /** "-11": a SHEET that is missing. */
    static void missingSheet(Due t) {
        Edge.unchanged(t, Edge::few, "fits(2, 0, 0)", Edge.NOTHING, x -> x.fits(2, 0, 0));
        Edge.unchanged(t, Edge::few, "fits(2, 2, 1)", Edge.NOTHING, x -> x.fits(2, 2, 1));
    }

    /** "of several the first named": BAD before -11. */
    static void badBeforeMissing(Due t) {
        Edge.unchanged(t, Edge::few, "fits(2, 3, 0)", Edge.BAD, x -> x.fits(2, 3, 0));
        Edge.unchanged(t, Edge::few, "fits(2, 0, 2)", Edge.BAD, x -> x.fits(2, 0, 2));
        Edge.unchanged(t, Edge::nobody, "fits(2, 0, 0)", Edge.BAD, x -> x.fits(2, 0, 0));
    }

    static void nothingChanges(Due t) {
        Edge.unchanged(t, () -> sheet(3, 10), "fits(0, 0, 0)", 1, x -> x.fits(0, 0, 0));
        Edge.unchanged(t, Edge::full, "fits(0, 7, 1)", Edge.NONE, x -> x.fits(0, 7, 1));
    }
}
