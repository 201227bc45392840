import java.math.BigInteger;

/** Edges of promise 28: odds. */
final class Promise28 {
    private Promise28() {
    }

    private static KinCutlery slipping(int slip) {
        KinCutlery x = new KinCutlery();
        x.set(Edge.SLIP, slip);
        return x;
    }

    private static void odds(Due t, int slip, int n, int k, long above, long below) {
        KinCutlery x = slipping(slip);
        t.due("odds(" + n + ", " + k + ", 0) by " + slip, x.odds(n, k, 0), above);
        t.due("odds(" + n + ", " + k + ", 1) by " + slip, x.odds(n, k, 1), below);
    }

    /** "n (0 to 8), k (0 to n)": none of none is sure. */
    static void noneOfNone(Due t) {
        odds(t, 0, 0, 0, 1, 1);
        odds(t, 20, 0, 0, 1, 1);
        odds(t, 99, 0, 0, 1, 1);
    }

    /** SLIP 0: none is sure, "0 is 0 by 1" for any other. */
    static void slipOf0(Due t) {
        for (int n = 1; n <= 8; n++) {
            odds(t, 0, n, 0, 1, 1);
            for (int k = 1; k <= n; k++) {
                odds(t, 0, n, k, 0, 1);
            }
        }
    }

    /** The greatest numbers there are: a hundred to the eighth below the line. */
    static void theGreatestNumbers(Due t) {
        odds(t, 99, 8, 8, 9227446944279201L, 10000000000000000L);
        odds(t, 99, 8, 0, 1, 10000000000000000L);
        odds(t, 1, 8, 0, 9227446944279201L, 10000000000000000L);
        odds(t, 1, 8, 8, 1, 10000000000000000L);
        odds(t, 99, 8, 7, 93206534790699L, 1250000000000000L);
    }

    /** "without a common divisor, below above 0": all of them, against great numbers. */
    static void allWithoutACommonDivisor(Due t) {
        for (int slip = 0; slip <= 99; slip++) {
            KinCutlery x = slipping(slip);
            for (int n = 0; n <= 8; n++) {
                BigInteger sum = BigInteger.ZERO;
                for (int k = 0; k <= n; k++) {
                    BigInteger above = ways(n, k).multiply(power(slip, k)).multiply(power(100 - slip, n - k));
                    BigInteger below = power(100, n);
                    BigInteger common = above.gcd(below);
                    t.due("above", x.odds(n, k, 0), above.divide(common).longValueExact());
                    t.due("below", x.odds(n, k, 1), below.divide(common).longValueExact());
                    sum = sum.add(above);
                }
                t.due("together they are sure", sum.equals(power(100, n)) ? 1 : 0, 1);
            }
        }
    }

    private static BigInteger power(int of, int to) {
        return BigInteger.valueOf(of).pow(to);
    }

    private static BigInteger ways(int n, int k) {
        int ways = 0;
        for (int set = 0; set < 1 << n; set++) {
            ways += Integer.bitCount(set) == k ? 1 : 0;
        }
        return BigInteger.valueOf(ways);
    }

    static void otherNumbersOfFeastsAreBad(Due t) {
        for (int n : Edge.beyond(0, 8)) {
            Edge.unchanged(t, Edge::few, "odds(" + n + ", 0, 0)", Edge.BAD, x -> x.odds(n, 0, 0));
            Edge.unchanged(t, Edge::few, "odds(" + n + ", " + n + ", 1)", Edge.BAD, x -> x.odds(n, n, 1));
        }
    }

    /** "k (0 to n)": for each n. */
    static void otherNumbersOfSlipsAreBad(Due t) {
        for (int i = 0; i <= 8; i++) {
            int n = i;
            for (int k : Edge.beyond(0, n)) {
                Edge.unchanged(t, Edge::few, "odds(" + n + ", " + k + ", 0)", Edge.BAD, x -> x.odds(n, k, 0));
            }
        }
    }

    static void noSuchPartIsBad(Due t) {
        for (int part : Edge.beyond(0, 1)) {
            Edge.unchanged(t, Edge::few, "odds(8, 1, " + part + ")", Edge.BAD, x -> x.odds(8, 1, part));
            Edge.unchanged(t, Edge::few, "odds(0, 0, " + part + ")", Edge.BAD, x -> x.odds(0, 0, part));
        }
    }

    static void nothingChanges(Due t) {
        Edge.unchanged(t, Edge::few, "odds(1, 1, 0)", 7, x -> x.odds(1, 1, 0));
        Edge.unchanged(t, Edge::few, "odds(1, 1, 1)", 50, x -> x.odds(1, 1, 1));
    }
}
