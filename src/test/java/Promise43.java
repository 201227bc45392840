/** Edges of promise 43: keep. */
final class Promise43 {
    private Promise43() {
    }

    /** It answers 1 and changes nothing but what is kept. */
    static void nothingElseChanges(Due t) {
        KinCutlery x = Edge.few();
        KinCutlery y = Edge.few();
        t.due("again", y.again(), 2);
        t.due("keep of what is kept", y.keep(), 1);
        x.again();
        Edge.same(t, "keep", Edge.seen(y), Edge.seen(x));
    }

    /** Nobody at all can be kept, too: then something is kept. */
    static void aNewObject(Due t) {
        KinCutlery x = new KinCutlery();
        t.due("again()", x.again(), Edge.NONE);
        t.due("keep()", x.keep(), 1);
        x.guest(0, 0);
        t.due("again()", x.again(), 0);
        t.due("many(0)", x.many(0), 0);
    }

    /** "All but THE TAPE, ROWS, SHEETS, SHELVES, THE TRACE is kept": eight GUESTS with all that is theirs, LAWS, COURSE, TOLD, z. */
    static void eightGuests(Due t) {
        KinCutlery x = Edge.girls(9);
        for (int law = 0; law < 4; law++) {
            x.set(law, 9);
        }
        x.set(Edge.DEPTH, 99);
        x.courses(7);
        x.seed(Edge.LEAST);
        for (int g = 0; g < 8; g++) {
            x.mind(g, g % 6);
            x.sink(g, 0, 99 - g);
            x.sink(g, 1, g % 2);
        }
        x.keep();
        Due.feastOn(x, "heir with 2 gone 3;told 5;");
        x.courses(5);
        x.course();
        t.due("again()", x.again(), 8);
        for (int g = 0; g < 8; g++) {
            int[] want = {g % 6, g, 99 - g, g == 7 ? 7 : 8, g % 2};
            for (int what = 0; what < 5; what++) {
                t.due("of(" + g + ", " + what + ")", x.of(g, what), want[what]);
            }
        }
        int[] laws = {9, 9, 99, 9};
        for (int law = 0; law < 4; law++) {
            t.due("lawOf(" + law + ")", x.lawOf(law), laws[law]);
        }
        t.due("COURSE", x.state(0), 7);
        t.due("TOLD", x.state(1), 63);
        t.due("DROWNED", x.state(3), 0xaa);
        t.due("z", x.seed(0), Edge.LEAST);
    }

    /** What is not kept: THE TAPE, ROWS, SHEETS, SHELVES, THE TRACE stay as they are by again(). */
    static void whatIsNotKept(Due t) {
        KinCutlery x = Edge.few();
        x.keep();
        x.feed(0x3b, 1);
        x.prove(0, 10);
        x.sheet(0, 3, 4);
        x.sheet(2, 2, 1);
        x.shelf(2, 0, 1);
        x.act(2, 1, 4);
        t.due("again()", x.again(), 3);
        t.due("bytes", x.many(5), 28);
        t.due("ROWS", x.many(4), 10);
        t.due("SHEET 0", x.item(0, 3, 3), 0);
        t.due("SHEET 2", x.item(2, 2, 0), 0);
        t.due("SHELF 2", x.taken(2, 3), 1);
        t.due("THE TRACE", x.trace(0), 20);
    }

    /** What is kept doesn't change with what is changed later. */
    static void itIsApart(Due t) {
        KinCutlery x = Edge.full();
        x.keep();
        KinCutlery y = Edge.full();
        y.keep();
        for (int g = 0; g < 8; g++) {
            x.give(g, 3);
            x.mind(g, 2);
            x.sink(g, 0, 1);
            x.sink(g, 1, 1 - x.of(g, 4));
        }
        x.set(0, 0);
        x.courses(60);
        x.again();
        Edge.same(t, "again", Edge.seen(x), Edge.seen(y));
    }
}
