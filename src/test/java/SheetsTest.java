/** Promises 34 to 37: minds, sheet, put, item. */
public final class SheetsTest {
    private static final Due T = new Due();
    private static final int LEAST = Integer.MIN_VALUE, MOST = Integer.MAX_VALUE;

    public static void main(String[] args) {
        sheets();
        items();
        minds();
        T.end();
    }

    private static void sheets() {
        KinCutlery x = new KinCutlery();
        int[] none = {-1, 4, LEAST, MOST};
        for (int s : none) {
            T.due("sheet " + s, x.sheet(s, 0, 1), -1);
            T.due("sheet, below 0 too " + s, x.sheet(s, 0, -1), -1);
            T.due("sheet missing " + s, x.sheet(s, -1, 1), -1);
            T.due("put " + s, x.put(s, 0, 0), -1);
            T.due("item " + s, x.item(s, 0, 0), -1);
        }
        int[] noSort = {-2, 4, LEAST, MOST};
        for (int sort : noSort) {
            T.due("sort " + sort, x.sheet(0, sort, 1), -1);
            T.due("sort, below 0 too " + sort, x.sheet(0, sort, -1), -1);
        }
        T.due("41", x.sheet(0, 0, 41), -1);
        T.due("most", x.sheet(0, 0, MOST), -1);
        T.due("-1", x.sheet(0, 0, -1), -14);
        T.due("least", x.sheet(0, 3, LEAST), -14);
        T.due("still missing", x.item(0, 0, 0), -11);
        T.due("40", x.sheet(0, 0, 40), 1);
        T.due("the last", x.item(0, 0, 39), 0);
        T.due("behind the last", x.item(0, 0, 40), -12);
        T.due("of none", x.sheet(1, 2, 0), 1);
        T.due("item of none", x.item(1, 2, 0), -12);
        T.due("put to none", x.put(1, 0, 0), -12);
        x.put(0, 3, 9);
        T.due("made anew", x.sheet(0, 0, 5), 1);
        T.due("all 0", x.item(0, 0, 3), 0);
        T.due("shorter", x.item(0, 0, 5), -12);
        int[] whatever = {0, 41, -1, LEAST, MOST};
        for (int n : whatever) {
            x.sheet(0, 1, 3);
            T.due("missing, n " + n, x.sheet(0, -1, n), 1);
            T.due("missing", x.put(0, 0, 1), -11);
        }
    }

    private static void items() {
        KinCutlery x = new KinCutlery();
        int[] v = {0, 1, -1, 127, 128, 255, 256, -128, -129, 32767, 32768, 65535, -32769, LEAST, MOST};
        for (int sort = 0; sort < 4; sort++) {
            x.sheet(sort, sort, v.length);
            for (int i = 0; i < v.length; i++) {
                T.due("put", x.put(sort, i, v[i]), 1);
            }
            for (int i = 0; i < v.length; i++) {
                int want = sort == 0 ? (byte) v[i] : sort == 1 ? (short) v[i] : v[i];
                T.due("item " + i + " of sort " + sort, x.item(sort, sort, i), want);
            }
            T.due("another sort", x.item(sort, (sort + 1) % 4, 0), -13);
            T.due("another sort before outside", x.item(sort, (sort + 1) % 4, 99), -13);
            T.due("no sort", x.item(sort, 4, 0), -1);
            T.due("sort -1", x.item(sort, -1, 0), -1);
            int[] outside = {-1, v.length, LEAST, MOST};
            for (int i : outside) {
                T.due("item outside", x.item(sort, sort, i), -12);
                T.due("put outside", x.put(sort, i, 1), -12);
            }
        }
        x.sheet(0, -1, 0);
        T.due("bad sort before missing", x.item(0, 4, 0), -1);
        T.due("missing before sort", x.item(0, 3, 0), -11);
    }

    private static void minds() {
        KinCutlery x = new KinCutlery();
        x.sheet(0, 0, 4);
        T.due("nobody", x.minds(0, 0, 0, 0), -1);
        x.guest(0, 0);
        x.guest(1, 1);
        x.guest(2, 2);
        x.sink(0, 0, 5);
        x.sink(1, 1, 1);
        int[] v = {99, 100, -1, 42};
        for (int i = 0; i < 4; i++) {
            x.put(0, i, v[i]);
        }
        T.due("none", x.minds(0, 4, 0, 0), 0);
        T.due("still", x.of(0, 2), 5);
        T.due("two from 2 on", x.minds(0, 2, 1, 2), 2);
        T.due("not the first", x.of(0, 2), 5);
        T.due("held at 0", x.of(1, 2), 0);
        T.due("as it is", x.of(2, 2), 42);
        T.due("three", x.minds(0, 0, 0, 3), 3);
        T.due("99", x.of(0, 2), 99);
        T.due("held at 99", x.of(1, 2), 99);
        T.due("held at 0", x.of(2, 2), 0);
        T.due("drowned all the same", x.state(3), 2);
        int[][] bad = {{-1, 0, 0, 1}, {4, 0, 0, 1}, {0, 0, -1, 1}, {0, 0, 3, 0}, {0, 0, 0, -1}, {0, 0, 0, 9},
            {0, 0, 0, 4}, {0, 0, 2, 2}, {LEAST, 0, 0, 1}, {0, 0, MOST, 1}, {0, 0, 0, MOST}, {0, 0, 2, MOST}, {0, 0, 0, LEAST},
            {1, 0, 3, 1}, {1, 0, 2, 2}};
        for (int[] b : bad) {
            T.due("minds(" + b[0] + ", " + b[1] + ", " + b[2] + ", " + b[3] + ")", x.minds(b[0], b[1], b[2], b[3]), -1);
        }
        T.due("missing", x.minds(1, 9, 0, 1), -11);
        for (int sort = 1; sort < 4; sort++) {
            x.sheet(1, sort, 3);
            T.due("not bytes", x.minds(1, 9, 0, 1), -13);
        }
        int[][] outside = {{-1, 0}, {5, 0}, {-1, 1}, {4, 1}, {3, 2}, {2, 3}, {LEAST, 0}, {MOST, 0}, {MOST, 3}};
        for (int[] o : outside) {
            T.due("minds from " + o[0] + ", " + o[1], x.minds(0, o[0], 0, o[1]), -12);
        }
        T.due("nothing changed", x.state(4), 198);
        for (int i = 3; i < 8; i++) {
            x.guest(0, 0);
        }
        x.sheet(2, 0, 8);
        T.due("eight", x.minds(2, 0, 0, 8), 8);
        T.due("all 0", x.state(4), 0);
    }
}
