/** Edges of promise 16: state. */
final class Promise16 {
    private Promise16() {
    }

    static void noSuchWhatIsBad(Due t) {
        for (int what : Edge.beyond(0, 5)) {
            Edge.unchanged(t, Edge::few, "state(" + what + ")", Edge.BAD, x -> x.state(what));
            Edge.unchanged(t, Edge::nobody, "state(" + what + ")", Edge.BAD, x -> x.state(what));
        }
    }

    static void nothingChanges(Due t) {
        for (int w = 0; w < 6; w++) {
            int what = w;
            Edge.unchanged(t, Edge::full, "state(" + what + ")", Edge.full().state(what), x -> x.state(what));
        }
    }

    /** Nobody at the table: NEXT is the GAP. */
    static void nobody(Due t) {
        KinCutlery x = Edge.nobody();
        int[] want = {2, 12, 4, 0, 0, 4};
        for (int what = 0; what < 6; what++) {
            t.due("state(" + what + ")", x.state(what), want[what]);
        }
    }

    /** "NEXT: .. TOLD's rest by 8" */
    static void nextGoesRound(Due t) {
        for (int told = 0; told <= 17; told++) {
            t.due("told " + told, Edge.feasted("told " + told + ";").state(2), told % 8);
        }
        t.due("told 999", Edge.feasted("told 999;").state(2), 7);
    }

    /** "those DROWNED, as a set": none, each, all eight. */
    static void theDrownedAsASet(Due t) {
        KinCutlery x = Edge.girls(3);
        int set = 0;
        t.due("none", x.state(3), 0);
        for (int g = 7; g >= 0; g--) {
            x.sink(g, 1, 1);
            set += 1 << g;
            t.due("from " + g + " on", x.state(3), set);
        }
        t.due("all", x.state(3), 255);
    }

    /** "GONE of all together": of the DROWNED, too. */
    static void goneTogether(Due t) {
        KinCutlery x = Edge.girls(3);
        t.due("the most", x.state(4), 792);
        x.sink(3, 1, 1);
        t.due("one DROWNED", x.state(4), 792);
        for (int g = 0; g < 8; g++) {
            x.sink(g, 0, 0);
        }
        t.due("the least", x.state(4), 0);
    }

    /** "GAP: the first PART from NEXT on, round": each part from each NEXT. */
    static void gapFromNextOnRound(Due t) {
        for (int told = 0; told < 9; told++) {
            for (int missing = 0; missing < 8; missing++) {
                KinCutlery x = Edge.feasted("told " + told + ";");
                for (int g = 0; g < 8; g++) {
                    x.guest(0, g == missing ? (g + 3) % 8 : g);
                }
                t.due("told " + told + ", without " + missing, x.state(5), missing);
                int before = (missing + 7) % 8;
                x.give(before, (missing + 2) % 8);
                t.due("and without that before it", x.state(5), missing == told % 8 ? missing : before);
            }
        }
    }

    /** "(8: there is none)", "nobody not DROWNED" */
    static void noGap(Due t) {
        KinCutlery x = Edge.girls(3);
        t.due("all are held", x.state(5), 8);
        x.sink(5, 1, 1);
        t.due("that of the DROWNED", x.state(5), 5);
        x.sink(5, 1, 0);
        t.due("all again", x.state(5), 8);
        x.courses(1);
        t.due("NEXT is 3, none is missing", x.state(5), 8);
        for (int g = 0; g < 8; g++) {
            x.sink(g, 1, 1);
        }
        t.due("all DROWNED", x.state(5), 3);
    }
}
