/** Edges of promise 15: luck. */
final class Promise15 {
    private Promise15() {
    }

    /** One girl far gone with a wrong piece; nearly all slip. */
    private static KinCutlery unlucky() {
        KinCutlery x = Edge.few();
        Due.feastOn(x, ";");
        Due.feastOn(x, "girl with 1 gone 50;slip 99;");
        x.seed(4711);
        return x;
    }

    /** By courses that are really had, each from the same feast, z going on. */
    private static int luckByCourses(int n) {
        int lucky = 0;
        int z = unlucky().seed(0);
        for (int i = 0; i < n; i++) {
            KinCutlery x = unlucky();
            int plain = x.tale(1);
            x.seed(z);
            lucky += x.course() > plain ? 1 : 0;
            z = x.seed(0);
        }
        return lucky;
    }

    /** "LUCK (n 1 to 30)" */
    static void oneToThirty(Due t) {
        for (int i = 1; i <= 30; i++) {
            int n = i;
            Edge.unchanged(t, Promise15::unlucky, "luck(" + n + ")", luckByCourses(n), x -> x.luck(n));
        }
        t.due("there is luck", luckByCourses(30) > 0 ? 1 : 0, 1);
    }

    static void otherNumbersAreBad(Due t) {
        for (int n : Edge.beyond(1, 30)) {
            Edge.unchanged(t, Promise15::unlucky, "luck(" + n + ")", Edge.BAD, x -> x.luck(n));
            Edge.unchanged(t, Edge::nobody, "luck(" + n + ")", Edge.BAD, x -> x.luck(n));
        }
    }

    static void nobody(Due t) {
        Edge.unchanged(t, Edge::nobody, "luck(30)", 0, x -> x.luck(30));
    }

    /** "TOLD is more than TALE by 1": not as much. */
    static void asMuchIsNoLuck(Due t) {
        KinCutlery x = Edge.feasted("girl with 0 gone 50;slip 0;");
        t.due("without slips", x.luck(30), 0);
        x.set(Edge.SLIP, 99);
        t.due("slips are for the worse here", x.luck(30), 0);
        Due.feastOn(x, "clerk with 1;slip 99;");
        t.due("nobody tells anything", x.luck(30), 0);
    }

    /** "more than TALE by 1": not than what is told behind more COURSES, nor than what is TOLD now. */
    static void moreThanTaleBy1(Due t) {
        // The girl tells part 0 behind 1; a slip of the guest to part 1 makes it two, as many as behind 2 by the niece.
        KinCutlery x = Edge.feasted("girl with 0 gone 50;guest with 5 gone 50;niece with 1 gone 8;slip 99;");
        t.due("tale(1)", x.tale(1), 1);
        t.due("tale(2)", x.tale(2), 2);
        int lucky = 0;
        int z = 1;
        for (int i = 0; i < 30; i++) {
            KinCutlery y = Edge.feasted("girl with 0 gone 50;guest with 5 gone 50;niece with 1 gone 8;slip 99;");
            y.seed(z);
            lucky += y.course() > 1 ? 1 : 0;
            z = y.seed(0);
        }
        t.due("there is luck", lucky > 0 ? 1 : 0, 1);
        t.due("luck(30)", x.luck(30), lucky);
    }

    /** Each is tried from how all is now: a slip to the piece wanted doesn't stay. */
    static void eachFromHowAllIsNow(Due t) {
        KinCutlery x = unlucky();
        int lucky = x.luck(30);
        t.due("not all behind the first", lucky < 20 ? 1 : 0, 1);
        t.due("the same again", x.luck(30), lucky);
    }
}
