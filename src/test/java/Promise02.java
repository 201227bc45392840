/** Edges of promise 2: feed. */
final class Promise02 {
    private static final long BLANKS = 0x2020202020202020L;

    private Promise02() {
    }

    /** "n bytes (1 to 8) .. how many it has": each n that is allowed. */
    static void oneToEightBytes(Due t) {
        KinCutlery x = new KinCutlery();
        int has = 0;
        for (int n = 1; n <= 8; n++) {
            has += n;
            t.due("feed of " + n, x.feed(BLANKS, n), has);
            t.due("many(5)", x.many(5), has);
        }
    }

    /** "n bytes (1 to 8) .. BAD" */
    static void otherNumbersOfBytesAreBad(Due t) {
        Edge.badBeyond(t, Edge::few, "feed(-1L, ..)", 1, 8, (x, n) -> x.feed(-1L, n));
    }

    /** "THE TAPE takes bytes, 200 at most": just 200, whatever the last n is. */
    static void twoHundredFit(Due t) {
        for (int n = 1; n <= 8; n++) {
            KinCutlery x = filled(200 - n);
            t.due("feed of the last " + n, x.feed(BLANKS, n), 200);
            t.due("many(5)", x.many(5), 200);
            t.due("all of it is read", x.feast(), 0);
        }
    }

    /** "FULL: more than 200": one more than fits, and the most that can be asked. */
    static void moreThanTwoHundredIsFull(Due t) {
        for (int n = 1; n <= 8; n++) {
            for (int has = 201 - n; has <= 200; has++) {
                int from = has;
                int bytes = n;
                Edge.unchanged(t, () -> filled(from), "feed of " + n + " to " + has, Edge.FULL, x -> x.feed(-1L, bytes));
            }
        }
    }

    /** A feed that is FULL takes none of its bytes: fewer still fit. */
    static void fewerFitBehindFull(Due t) {
        KinCutlery x = filled(199);
        t.due("feed of two", x.feed(0, 2), Edge.FULL);
        t.due("feed of one", x.feed(BLANKS, 1), 200);
        t.due("blanks alone", x.feast(), 0);
    }

    /** "of several the first named": BAD, then FULL. */
    static void badBeforeFull(Due t) {
        for (int n : Edge.beyond(1, 8)) {
            Edge.unchanged(t, () -> filled(200), "feed(0, " + n + ")", Edge.BAD, x -> x.feed(0L, n));
        }
    }

    /** "the lowest of eight first" */
    static void lowestFirst(Due t) {
        KinCutlery x = new KinCutlery();
        t.due("feed", x.feed(0x3b39393920646c6fL << 8 | 't', 8), 8);
        t.due("feed", x.feed(0x3b, 1), 9);
        t.due("feast: told 999;", x.feast(), 0);
        t.due("TOLD", x.state(1), 999);
    }

    /** Of eight no more than n bytes come. */
    static void bytesBeyondNDoNotCome(Due t) {
        for (int n = 1; n <= 7; n++) {
            KinCutlery x = new KinCutlery();
            t.due("feed", x.feed(BLANKS >>> 8 * (8 - n) | -1L << 8 * n, n), n);
            t.due("feast of " + n + " blanks", x.feast(), 0);
        }
    }

    /** The least and the greatest long: bytes 0 and 128, 255 and 127. */
    static void leastAndGreatestLong(Due t) {
        long[] eights = {Long.MIN_VALUE, Long.MAX_VALUE, -1L, 0L};
        for (long eight : eights) {
            KinCutlery x = new KinCutlery();
            t.due("feed", x.feed(eight, 8), 8);
            t.due("feast", x.feast(), -100);
        }
        KinCutlery x = new KinCutlery();
        x.feed(Long.MIN_VALUE | BLANKS >>> 8, 8);
        t.due("the eighth byte is 128", x.feast(), -107);
    }

    /** feast() uses THE TAPE up: 200 fit again, whether it was understood or not. */
    static void twoHundredFitAgainBehindFeast(Due t) {
        KinCutlery x = filled(200);
        t.due("feast", x.feast(), 0);
        t.due("feed", x.feed(-1L, 8), 8);
        t.due("feast", x.feast(), -100);
        for (int i = 1; i <= 25; i++) {
            t.due("feed", x.feed(BLANKS, 8), 8 * i);
        }
        t.due("one more", x.feed(BLANKS, 1), Edge.FULL);
    }

    private static KinCutlery filled(int bytes) {
        KinCutlery x = new KinCutlery();
        for (int i = 0; i < bytes; i += 8) {
            x.feed(BLANKS, Math.min(8, bytes - i));
        }
        return x;
    }
}
