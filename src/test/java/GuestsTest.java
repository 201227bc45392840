/** Promises 1 and 4 to 11: a new object, set, lawOf, guest, of, does, mind, give, sink. */
public final class GuestsTest {
    private static final Due T = new Due();
    private static final int LEAST = Integer.MIN_VALUE, MOST = Integer.MAX_VALUE;

    public static void main(String[] args) {
        newObject();
        laws();
        guests();
        does();
        mindAndGive();
        sink();
        T.end();
    }

    private static void newObject() {
        KinCutlery x = new KinCutlery();
        for (int what = 0; what < 7; what++) {
            T.due("new many(" + what + ")", x.many(what), 0);
        }
        for (int what = 0; what < 6; what++) {
            T.due("new state(" + what + ")", x.state(what), 0);
        }
        for (int s = 0; s < 4; s++) {
            T.due("new item", x.item(s, 0, 0), -11);
            T.due("new taken", x.taken(s, 0), -11);
        }
        T.due("new again", x.again(), -3);
        T.due("new z", x.seed(5), 1);
        T.due("new trace", x.trace(0), -3);
        T.due("new row", x.row(0, 0), -9);
        T.due("new of", x.of(0, 0), -1);
        KinCutlery other = new KinCutlery();
        other.guest(0, 0);
        T.due("objects are apart", x.many(0), 0);
    }

    private static void laws() {
        KinCutlery x = new KinCutlery();
        int[] first = {3, 2, 90, 20};
        int[] most = {9, 9, 99, 99};
        for (int law = 0; law < 4; law++) {
            T.due("law " + law + " at first", x.lawOf(law), first[law]);
            T.due("set to -1", x.set(law, -1), -1);
            T.due("set too high", x.set(law, most[law] + 1), -1);
            T.due("set least int", x.set(law, LEAST), -1);
            T.due("set greatest int", x.set(law, MOST), -1);
            T.due("law unchanged", x.lawOf(law), first[law]);
            T.due("set to most", x.set(law, most[law]), first[law]);
            T.due("law is most", x.lawOf(law), most[law]);
            T.due("set to 0", x.set(law, 0), most[law]);
            T.due("law is 0", x.lawOf(law), 0);
        }
        int[] noLaw = {-1, 4, LEAST, MOST};
        for (int law : noLaw) {
            T.due("set(" + law + ", 1)", x.set(law, 1), -1);
            T.due("lawOf(" + law + ")", x.lawOf(law), -1);
        }
    }

    private static void guests() {
        KinCutlery x = new KinCutlery();
        int[][] bad = {{-1, 0}, {6, 0}, {0, -1}, {0, 8}, {LEAST, 0}, {MOST, 0}, {0, LEAST}, {0, MOST}};
        for (int[] b : bad) {
            T.due("guest(" + b[0] + ", " + b[1] + ")", x.guest(b[0], b[1]), -1);
        }
        T.due("none came", x.many(0), 0);
        for (int g = 0; g < 8; g++) {
            T.due("guest " + g, x.guest(g % 6, 7 - g), g);
        }
        T.due("a ninth", x.guest(0, 0), -2);
        T.due("bad before full", x.guest(6, 0), -1);
        for (int g = 0; g < 8; g++) {
            T.due("kind of " + g, x.of(g, 0), g % 6);
            T.due("piece of " + g, x.of(g, 1), 7 - g);
            for (int what = 2; what < 5; what++) {
                T.due("of(" + g + ", " + what + ")", x.of(g, what), 0);
            }
        }
        int[] none = {-1, 8, LEAST, MOST};
        for (int g : none) {
            T.due("of(" + g + ", 0)", x.of(g, 0), -1);
            T.due("does(" + g + ", 0)", x.does(g, 0), -1);
            T.due("mind(" + g + ", 0)", x.mind(g, 0), -1);
            T.due("give(" + g + ", 0)", x.give(g, 0), -1);
            T.due("sink(" + g + ", 0, 0)", x.sink(g, 0, 0), -1);
        }
        int[] noWhat = {-1, 5, LEAST, MOST};
        for (int what : noWhat) {
            T.due("of(0, " + what + ")", x.of(0, what), -1);
        }
    }

    /** By SALT 0, 2, 9: what each kind TAKES, NEEDS, COSTS; it HOLDS NEXT, GONE 0. */
    private static void does() {
        int[] salts = {0, 2, 9};
        int[][][] want = {
            {{4, 20, 10}, {4, 15, 10}, {2, 30, 15}, {8, 15, 5}, {2, 30, 15}, {9, 10, 0}},
            {{4, 20, 10}, {6, 15, 10}, {2, 30, 15}, {12, 13, 5}, {0, 30, 13}, {9, 10, 0}},
            {{4, 20, 10}, {13, 15, 10}, {2, 30, 15}, {26, 6, 5}, {-7, 30, 6}, {9, 10, 0}},
        };
        for (int s = 0; s < salts.length; s++) {
            KinCutlery x = new KinCutlery();
            x.set(1, salts[s]);
            for (int kind = 0; kind < 6; kind++) {
                x.guest(kind, 0);
                for (int what = 0; what < 3; what++) {
                    T.due("salt " + salts[s] + " does(" + kind + ", " + what + ")", x.does(kind, what), 1000 + want[s][kind][what]);
                }
                T.due("does what 3", x.does(kind, 3), -1);
                T.due("does what -1", x.does(kind, -1), -1);
                T.due("does what least", x.does(kind, LEAST), -1);
            }
        }
        KinCutlery x = new KinCutlery();
        x.guest(4, 0);
        int[][] clerk = {{0, 30}, {9, 30}, {10, 29}, {19, 29}, {20, 28}, {99, 21}};
        for (int[] c : clerk) {
            x.sink(0, 0, c[0]);
            T.due("clerk's need, gone " + c[0], x.does(0, 1), 1000 + c[1]);
        }
        x.mind(0, 5);
        x.give(0, 1);
        T.due("girl without next", x.does(0, 0), 1004);
        x.sink(0, 1, 1);
        T.due("drowned all the same", x.does(0, 1), 1010);
    }

    private static void mindAndGive() {
        KinCutlery x = new KinCutlery();
        x.guest(2, 4);
        x.sink(0, 0, 9);
        T.due("mind", x.mind(0, 5), 2);
        T.due("mind again", x.mind(0, 0), 5);
        T.due("mind the same", x.mind(0, 0), 0);
        T.due("mind(0, 6)", x.mind(0, 6), -1);
        T.due("mind(0, -1)", x.mind(0, -1), -1);
        T.due("mind(1, 0)", x.mind(1, 0), -1);
        T.due("give", x.give(0, 7), 4);
        T.due("give again", x.give(0, 0), 7);
        T.due("give the same", x.give(0, 0), 0);
        T.due("give(0, 8)", x.give(0, 8), -1);
        T.due("give(0, -1)", x.give(0, -1), -1);
        T.due("kind", x.of(0, 0), 0);
        T.due("piece", x.of(0, 1), 0);
        T.due("gone stays", x.of(0, 2), 9);
    }

    private static void sink() {
        KinCutlery x = new KinCutlery();
        x.guest(0, 0);
        x.guest(0, 0);
        T.due("gone 99", x.sink(0, 0, 99), 0);
        T.due("gone 0", x.sink(0, 0, 0), 99);
        T.due("gone 100", x.sink(0, 0, 100), -1);
        T.due("gone -1", x.sink(0, 0, -1), -1);
        T.due("drowned 1", x.sink(1, 1, 1), 0);
        T.due("drowned 2", x.sink(1, 1, 2), -1);
        T.due("drowned -1", x.sink(1, 1, -1), -1);
        T.due("drowned of 1", x.of(1, 4), 1);
        T.due("drowned of 0", x.of(0, 4), 0);
        T.due("drowned 0", x.sink(1, 1, 0), 1);
        T.due("drowned of 1", x.of(1, 4), 0);
        T.due("what 2", x.sink(0, 2, 0), -1);
        T.due("what -1", x.sink(0, -1, 0), -1);
        T.due("gone of 0", x.of(0, 2), 0);
        T.due("what least", x.sink(0, LEAST, 0), -1);
        T.due("v most", x.sink(0, 0, MOST), -1);
    }
}
