/** Promises 42 to 44: many, keep, again. */
public final class KeepTest {
    private static final Due T = new Due();

    public static void main(String[] args) {
        many();
        keep();
        T.end();
    }

    private static void many() {
        KinCutlery x = new KinCutlery();
        int[] bad = {-1, 7, Integer.MIN_VALUE, Integer.MAX_VALUE};
        for (int what : bad) {
            T.due("many(" + what + ")", x.many(what), -1);
        }
        Due.feastOn(x, "girl with 0 gone 50;girl with 1 gone 50;girl with 1;guest with 4 drowned;guest with 1 drowned;");
        x.courses(1);
        x.prove(0, 7);
        x.feed(0, 5);
        x.shelf(0, 0, 1);
        x.act(0, 3, 0);
        int[] want = {5, 2, 2, 2, 7, 5, 4};
        for (int what = 0; what < want.length; what++) {
            T.due("many(" + what + ")", x.many(what), want[what]);
        }
    }

    private static void keep() {
        KinCutlery x = new KinCutlery();
        T.due("nothing is kept", x.again(), -3);
        x.guest(5, 0);
        x.guest(3, 1);
        x.sink(0, 0, 30);
        x.sink(1, 0, 40);
        x.sink(1, 1, 1);
        x.set(0, 1);
        x.set(1, 4);
        x.set(2, 80);
        x.set(3, 6);
        x.courses(2);
        x.seed(123);
        T.due("keep", x.keep(), 1);
        int[] was = all(x);
        x.prove(0, 3);
        x.feed(0x3b, 1);
        x.sheet(0, 0, 2);
        x.put(0, 1, 7);
        x.shelf(0, 0, 1);
        x.act(0, 1, 3);
        x.seed(5);
        x.guest(1, 2);
        for (int law = 0; law < 4; law++) {
            x.set(law, 0);
        }
        x.mind(0, 1);
        x.give(0, 7);
        x.sink(1, 1, 0);
        x.courses(30);
        x.course();
        for (int i = 0; i < 2; i++) {
            T.due("again", x.again(), 2);
            int[] is = all(x);
            for (int k = 0; k < was.length; k++) {
                T.due("again " + i + ": " + k, is[k], was[k]);
            }
            T.due("z", x.seed(99), 123);
            T.due("no third guest", x.of(2, 0), -1);
            T.due("ROWS aren't kept", x.many(4), 3);
            T.due("nor THE TAPE", x.many(5), 1);
            T.due("nor SHEETS", x.item(0, 0, 1), 7);
            T.due("nor SHELVES", x.taken(0, 3), 1);
            T.due("nor THE TRACE", x.trace(0), 20);
            x.courses(7);
            x.sink(0, 0, 3);
        }
        x.feast();
        Due.feastOn(x, "niece with 6;");
        x.keep();
        x.guest(0, 0);
        T.due("the latest", x.again(), 1);
        T.due("its kind", x.of(0, 0), 1);
        T.due("nobody more", x.many(0), 1);
    }

    private static int[] all(KinCutlery x) {
        int[] all = new int[20];
        for (int i = 0; i < 10; i++) {
            all[i] = x.of(i / 5, i % 5);
        }
        for (int law = 0; law < 4; law++) {
            all[10 + law] = x.lawOf(law);
        }
        for (int what = 0; what < 6; what++) {
            all[14 + what] = x.state(what);
        }
        return all;
    }
}
