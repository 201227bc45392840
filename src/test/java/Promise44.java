/** Edges of promise 44: again. */
final class Promise44 {
    private Promise44() {
    }

    /** "NONE: nothing is kept": all stays. */
    static void nothingIsKept(Due t) {
        Edge.unchanged(t, KinCutlery::new, "again()", Edge.NONE, x -> x.again());
        Edge.unchanged(t, () -> Edge.feasted("girl with 4 gone 7 drowned;told 9;salt 4;"), "again()", Edge.NONE, x -> x.again());
        Edge.unchanged(t, () -> Edge.girls(3), "again()", Edge.NONE, x -> x.again());
    }

    /** "how many GUESTS": none to eight. */
    static void howMany(Due t) {
        for (int many = 0; many <= 8; many++) {
            KinCutlery x = new KinCutlery();
            for (int g = 0; g < many; g++) {
                x.guest(g % 6, g);
            }
            x.keep();
            if (many == 0) {
                x.guest(0, 0);
            } else {
                x.feast();
            }
            t.due("again()", x.again(), many);
            t.due("many(0)", x.many(0), many);
            t.due("the one behind the last", x.of(many, 0), Edge.BAD);
        }
    }

    /** "(which stays)": again and again. */
    static void itStays(Due t) {
        KinCutlery x = Edge.few();
        for (int i = 0; i < 3; i++) {
            t.due("again()", x.again(), 2);
            t.due("GONE", x.of(0, 2), Edge.few().of(0, 2) - 4);
            t.due("COURSE", x.state(0), 1);
            x.sink(0, 0, 1);
            x.mind(0, 0);
            x.set(1, 0);
            x.guest(0, 0);
            x.courses(9);
            x.seed(1);
        }
    }

    /** "what was kept latest" */
    static void theLatest(Due t) {
        KinCutlery x = new KinCutlery();
        for (int i = 0; i < 4; i++) {
            x.guest(i, i);
            x.seed(i);
            x.keep();
        }
        x.guest(5, 5);
        t.due("again()", x.again(), 4);
        t.due("z", x.seed(9), 3);
        x.feast();
        x.keep();
        x.guest(1, 1);
        t.due("nobody, kept behind feast()", x.again(), 0);
    }

    /** What is kept stays by feast(), a refused one, too. */
    static void itStaysByFeast(Due t) {
        KinCutlery x = Edge.few();
        x.feast();
        t.due("again()", x.again(), 2);
        Due.feastOn(x, "?");
        t.due("again()", x.again(), 2);
    }

    /** ROWS stay, and are judged from how it is then. */
    static void rowsStay(Due t) {
        KinCutlery x = Edge.girls(9);
        x.keep();
        x.prove(7, 10);
        x.courses(5);
        t.due("wrong by now", x.judge(7), 1);
        x.again();
        t.due("right again", x.judge(7), 0);
    }
}
