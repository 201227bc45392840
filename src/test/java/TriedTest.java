/** Promises 17 to 27: deep, speaks, sinks, whole, tale, pieceFor, kindFor, goneFor, depthFor, strangersFor, fits. */
public final class TriedTest {
    private static final Due T = new Due();
    private static final int[] NOBODY = {-1, 1, 8, Integer.MIN_VALUE, Integer.MAX_VALUE};

    public static void main(String[] args) {
        refusals();
        oneAlone();
        whole();
        pieceFor();
        kindFor();
        goneFor();
        depthFor();
        strangersFor();
        fits();
        T.end();
    }

    private static KinCutlery one() {
        KinCutlery x = new KinCutlery();
        x.guest(0, 0);
        return x;
    }

    private static void refusals() {
        KinCutlery x = one();
        x.sheet(0, 0, 1);
        for (int g : NOBODY) {
            T.due("deep of " + g, x.deep(g, 1), -1);
            T.due("speaks of " + g, x.speaks(g), -1);
            T.due("sinks of " + g, x.sinks(g), -1);
            T.due("pieceFor " + g, x.pieceFor(g, 1), -1);
            T.due("kindFor " + g, x.kindFor(g, 1), -1);
            T.due("goneFor " + g, x.goneFor(g, 1), -1);
            T.due("fits of " + g, x.fits(0, g, 0), -1);
        }
        int[] beyond60 = {-1, 61, Integer.MIN_VALUE, Integer.MAX_VALUE};
        for (int n : beyond60) {
            T.due("deep by " + n, x.deep(0, n), -1);
            T.due("tale by " + n, x.tale(n), -1);
        }
        int[] beyond40 = {0, -1, 41, Integer.MIN_VALUE, Integer.MAX_VALUE};
        for (int n : beyond40) {
            T.due("pieceFor n " + n, x.pieceFor(0, n), -1);
            T.due("kindFor n " + n, x.kindFor(0, n), -1);
            T.due("goneFor n " + n, x.goneFor(0, n), -1);
            T.due("depthFor n " + n, x.depthFor(n), -1);
        }
        int[] beyond20 = {0, -1, 21, Integer.MIN_VALUE, Integer.MAX_VALUE};
        for (int n : beyond20) {
            T.due("strangersFor n " + n, x.strangersFor(n, 0), -1);
        }
        int[] noTale = {-1, 100000, Integer.MIN_VALUE, Integer.MAX_VALUE};
        for (int v : noTale) {
            T.due("strangersFor v " + v, x.strangersFor(1, v), -1);
        }
        T.due("strangersFor most", x.strangersFor(20, 99999), -3);
    }

    /** 4 more a course, told at 20 behind 5, then 10, and farther than 90 behind 26. */
    private static void oneAlone() {
        KinCutlery x = one();
        x.seed(9);
        int[][] deep = {{0, 0}, {1, 4}, {4, 16}, {5, 10}, {6, 14}, {25, 90}, {26, 94}, {60, 94}};
        for (int[] d : deep) {
            T.due("deep(0, " + d[0] + ")", x.deep(0, d[0]), d[1]);
        }
        T.due("speaks", x.speaks(0), 5);
        T.due("sinks", x.sinks(0), 26);
        T.due("tale(0)", x.tale(0), 0);
        T.due("tale(4)", x.tale(4), 0);
        T.due("tale(5)", x.tale(5), 1);
        T.due("tale(60)", x.tale(60), 1);
        T.due("nothing changed", x.of(0, 2) + x.of(0, 3) + x.of(0, 4) + x.state(0) + x.state(1), 0);
        T.due("nor z", x.seed(1), 9);
        x.give(0, 1);
        T.due("never speaks", x.speaks(0), -3);
        x.sink(0, 1, 1);
        T.due("drowned already", x.sinks(0), 0);
        T.due("drowned stays so deep", x.deep(0, 60), 0);
        KinCutlery y = new KinCutlery();
        y.guest(4, 0);
        T.due("a clerk takes nothing by SALT 2", y.sinks(0), -3);
        y.set(1, 1);
        T.due("1 a course: told at 28 behind 28", y.speaks(0), 28);
        y.give(0, 1);
        y.set(2, 59);
        T.due("behind 60", y.sinks(0), 60);
        y.set(2, 60);
        T.due("not behind 60", y.sinks(0), -3);
    }

    private static void whole() {
        KinCutlery x = new KinCutlery();
        Due.feastOn(x, "girl with 6 gone 50;girl with 7;girl with 0 gone 50;told 14;breath 9;");
        T.due("behind 1: the girl with 7 is just 4 gone, then 13", x.whole(), 2);
        T.due("tale(1)", x.tale(1), 15);
        T.due("tale(2)", x.tale(2), 17);
        x.set(0, 0);
        T.due("without breath", x.whole(), -3);
        Due.feastOn(x, "girl with 0 gone 50;told 16;");
        T.due("told 17 is no more than 16 by 8", x.whole(), -3);
        Due.feastOn(x, "clerk with 7;told 7;salt 1;");
        T.due("clerk behind 28", x.whole(), 28);
    }

    private static void pieceFor() {
        KinCutlery x = new KinCutlery();
        Due.feastOn(x, "guest with 5;guest with 4 gone 50;told 3;");
        T.due("none by 4: the least", x.pieceFor(0, 4), 0);
        T.due("NEXT by 5", x.pieceFor(0, 5), 3);
        T.due("the other", x.pieceFor(1, 1), 3);
        T.due("it still HOLDS", x.of(0, 1), 5);
        x.sink(0, 1, 1);
        T.due("drowned", x.pieceFor(0, 40), 0);
    }

    private static void kindFor() {
        KinCutlery x = one();
        T.due("none by 1", x.kindFor(0, 1), 0);
        T.due("heir by 2", x.kindFor(0, 2), 3);
        T.due("niece by 3", x.kindFor(0, 3), 1);
        T.due("niece by 4", x.kindFor(0, 4), 1);
        T.due("guest by 5", x.kindFor(0, 5), 0);
        x.set(1, 0);
        T.due("girl by 2 without salt: heirs are at 16 then too", x.kindFor(0, 2), 3);
        x.sink(0, 0, 1);
        T.due("girl by 1", x.kindFor(0, 1), 5);
        T.due("its KIND stays", x.of(0, 0), 0);
    }

    private static void goneFor() {
        KinCutlery x = one();
        x.sink(0, 0, 77);
        T.due("by 1", x.goneFor(0, 1), 16);
        T.due("by 4", x.goneFor(0, 4), 4);
        T.due("by 5", x.goneFor(0, 5), 0);
        T.due("by 40", x.goneFor(0, 40), 0);
        x.set(2, 15);
        T.due("drowned before, unless at once", x.goneFor(0, 4), 16);
        T.due("it stays", x.of(0, 2), 77);
        x.sink(0, 1, 1);
        T.due("drowned", x.goneFor(0, 40), -3);
        x.sink(0, 1, 0);
        x.give(0, 1);
        T.due("not its part", x.goneFor(0, 40), -3);
        x.give(0, 0);
        x.mind(0, 4);
        x.set(1, 9);
        x.set(2, 99);
        // 7 less a course: n - 7 must be as much as 30 less a tenth of it
        T.due("clerk by 1", x.goneFor(0, 1), 35);
    }

    private static void depthFor() {
        KinCutlery x = one();
        T.due("by 1", x.depthFor(1), 4);
        T.due("by 4", x.depthFor(4), 16);
        T.due("by 5: told in time", x.depthFor(5), 16);
        T.due("by 7", x.depthFor(7), 18);
        T.due("by 26", x.depthFor(26), 94);
        T.due("by 40", x.depthFor(40), 99);
        x.set(2, 0);
        T.due("whatever DEPTH is now", x.depthFor(26), 94);
        x.guest(0, 3);
        x.sink(1, 0, 99);
        T.due("held", x.depthFor(1), 99);
        x.sink(1, 1, 1);
        T.due("who is drowned now doesn't count", x.depthFor(1), 4);
        x.sink(0, 1, 1);
        T.due("nobody else", x.depthFor(40), 0);
        T.due("DEPTH stays", x.lawOf(2), 0);
    }

    private static void strangersFor() {
        KinCutlery x = new KinCutlery();
        Due.feastOn(x, "girl with 1 gone 50;girl with 0 gone 50;girl with 0 gone 50;");
        T.due("nothing to tell", x.strangersFor(1, 0), 0);
        T.due("one", x.strangersFor(1, 1), 2);
        T.due("two", x.strangersFor(1, 2), 3);
        T.due("three", x.strangersFor(20, 3), -3);
        x.sink(1, 1, 1);
        T.due("the other one", x.strangersFor(1, 1), 4);
        T.due("the other two", x.strangersFor(1, 2), 5);
        T.due("who is drowned isn't raised", x.state(3), 2);
        x.set(0, 1);
        T.due("breath 1", x.strangersFor(1, 2), -3);
        T.due("breath 1, twice", x.strangersFor(2, 2), 5);
        x.set(0, 0);
        T.due("no breath", x.strangersFor(20, 1), -3);
        // The guest tells part 0 behind 1, then is 10 gone, and can tell it again behind 4.
        Due.feastOn(x, "guest with 0 gone 16;girl with 1 gone 50;girl with 2 gone 50;girl with 3 gone 50;"
            + "girl with 4 gone 50;girl with 5 gone 50;girl with 6 gone 50;girl with 7 gone 50;breath 9;");
        T.due("all eight", x.strangersFor(1, 8), 255);
        T.due("not nine at once", x.strangersFor(1, 9), -3);
        T.due("nor behind 3", x.strangersFor(3, 9), -3);
        T.due("but behind 4", x.strangersFor(4, 9), 255);
        T.due("nobody changed", x.state(3), 0);
        x = new KinCutlery();
        T.due("no guests, 0", x.strangersFor(1, 0), 0);
        T.due("no guests, 1", x.strangersFor(1, 1), -3);
    }

    private static void fits() {
        KinCutlery x = new KinCutlery();
        Due.feastOn(x, "girl with 4 gone 50;girl with 1 gone 50;");
        T.due("no SHEET -1", x.fits(-1, 0, 0), -1);
        T.due("no SHEET 4", x.fits(4, 0, 0), -1);
        T.due("bad before missing", x.fits(0, 2, 0), -1);
        T.due("what 2 before missing", x.fits(0, 0, 2), -1);
        T.due("what -1", x.fits(0, 0, -1), -1);
        T.due("missing", x.fits(0, 0, 0), -11);
        for (int sort = 0; sort < 4; sort++) {
            x.sheet(0, sort, 0);
            T.due("no numbers: all", x.fits(0, 0, 0), 8);
            T.due("the least", x.fits(0, 0, 1), 0);
            x.sheet(0, sort, 3);
            T.due("0, 0, 0: all but 0", x.fits(0, 0, 0), 7);
            T.due("the least", x.fits(0, 0, 1), 1);
            x.put(0, 0, -1);
            x.put(0, 1, -1);
            x.put(0, 2, 2);
            T.due("any, any, 2", x.fits(0, 0, 0), 1);
            T.due("the piece", x.fits(0, 0, 1), 0);
            x.put(0, 2, 1);
            T.due("any, any, 1", x.fits(0, 0, 0), 0);
            T.due("none", x.fits(0, 0, 1), -3);
            x.put(0, 2, 255);
            T.due("255 is -1 as a byte", x.fits(0, 0, 0), sort == 0 ? 8 : 0);
            x.put(0, 2, -2);
            T.due("-2", x.fits(0, 0, 0), 0);
        }
        x.sheet(1, 0, 40);
        T.due("forty courses", x.fits(1, 1, 0), 7);
        T.due("nothing changed", x.state(0) + x.of(0, 1), 4);
    }
}
