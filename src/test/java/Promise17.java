/** Edges of promise 17: deep. */
final class Promise17 {
    private Promise17() {
    }

    /** "by n (0 to 60)": behind none it is as it is. */
    static void behindNoneAndSixty(Due t) {
        KinCutlery x = Edge.feasted("clerk with 1 gone 9;clerk with 1 gone 38;salt 1;");
        for (int n = 0; n <= 60; n++) {
            t.due("deep(0, " + n + ")", x.deep(0, n), 9 + n);
        }
        t.due("deep(1, 60)", x.deep(1, 60), 91);
        t.due("deep(1, 52)", x.deep(1, 52), 90);
        t.due("deep(1, 53)", x.deep(1, 53), 91);
    }

    static void otherNumbersAreBad(Due t) {
        Edge.badBeyond(t, Edge::few, "deep(0, ..)", 0, 60, (x, n) -> x.deep(0, n));
    }

    static void noSuchOneIsBad(Due t) {
        Edge.badForNobody(t, "deep(.., 0)", (x, g) -> x.deep(g, 0));
        Edge.badForNobody(t, "deep(.., 60)", (x, g) -> x.deep(g, 60));
    }

    /** "What is asked here is TRIED; nothing changes." And it is what COURSES make of it. */
    static void asCoursesMakeIt(Due t) {
        int[] ns = {0, 1, 2, 59, 60};
        for (int n : ns) {
            for (int g = 0; g < 8; g++) {
                KinCutlery y = Edge.full();
                if (n > 0) {
                    y.courses(n);
                }
                int one = g;
                Edge.unchanged(t, Edge::full, "deep(" + g + ", " + n + ")", y.of(g, 2), x -> x.deep(one, n));
            }
        }
    }

    static void heldAndDrowned(Due t) {
        KinCutlery x = Edge.feasted("clerk with 1 gone 3;guest with 1 gone 93;guest with 1 gone 50 drowned;heir with 1 gone 90;salt 9;");
        t.due("held at 0", x.deep(0, 1), 0);
        t.due("DROWNED at 97", x.deep(1, 60), 97);
        t.due("DROWNED now", x.deep(2, 60), 50);
        t.due("held at 99", x.deep(3, 1), 99);
    }
}
