/** Promises 28 (odds) and 29 (hope). */
public final class OddsTest {
    private static final Due T = new Due();
    private static final int LEAST = Integer.MIN_VALUE, MOST = Integer.MAX_VALUE;

    public static void main(String[] args) {
        KinCutlery x = new KinCutlery();
        odds(x, 1, 0, 4, 5);
        odds(x, 1, 1, 1, 5);
        odds(x, 2, 1, 8, 25);
        odds(x, 8, 4, 3584, 78125);
        odds(x, 8, 0, 65536, 390625);
        odds(x, 0, 0, 1, 1);
        x.set(3, 99);
        odds(x, 8, 8, 9227446944279201L, 10000000000000000L);
        odds(x, 8, 0, 1, 10000000000000000L);
        odds(x, 8, 7, 93206534790699L, 1250000000000000L);
        x.set(3, 50);
        odds(x, 8, 4, 35, 128);
        odds(x, 3, 2, 3, 8);
        x.set(3, 0);
        odds(x, 8, 0, 1, 1);
        odds(x, 8, 1, 0, 1);
        odds(x, 8, 8, 0, 1);
        int[][] bad = {{-1, 0, 0}, {9, 0, 0}, {3, -1, 0}, {3, 4, 0}, {3, 1, 2}, {3, 1, -1}, {0, 1, 0},
            {LEAST, 0, 0}, {MOST, 0, 0}, {3, LEAST, 0}, {3, MOST, 0}, {3, 1, LEAST}, {3, 1, MOST}};
        for (int[] b : bad) {
            T.due("odds(" + b[0] + ", " + b[1] + ", " + b[2] + ")", x.odds(b[0], b[1], b[2]), -1);
        }
        hope(x, 99, 0, 1);
        x.set(3, 20);
        hope(x, 0, 0, 1);
        hope(x, 1, 1, 5);
        hope(x, 5, 1, 1);
        hope(x, 7, 7, 5);
        hope(x, 99, 99, 5);
        x.set(3, 99);
        hope(x, 99, 9801, 100);
        hope(x, 50, 99, 2);
        int[][] noHope = {{-1, 0}, {100, 0}, {5, -1}, {5, 2}, {LEAST, 0}, {MOST, 1}, {5, LEAST}, {5, MOST}};
        for (int[] b : noHope) {
            T.due("hope(" + b[0] + ", " + b[1] + ")", x.hope(b[0], b[1]), -1);
        }
        T.end();
    }

    private static void odds(KinCutlery x, int n, int k, long above, long below) {
        T.due("odds(" + n + ", " + k + ", 0)", x.odds(n, k, 0), above);
        T.due("odds(" + n + ", " + k + ", 1)", x.odds(n, k, 1), below);
    }

    private static void hope(KinCutlery x, int n, long above, long below) {
        T.due("hope(" + n + ", 0)", x.hope(n, 0), above);
        T.due("hope(" + n + ", 1)", x.hope(n, 1), below);
    }
}
