/** Edges of promise 14: course, by draws. */
final class Promise14 {
    private Promise14() {
    }

    /** What z becomes, by longs. */
    private static int next(int z) {
        return (int) ((z & 0xffffffffL) * 1103515245L + 12345L);
    }

    /** The draw that z gives: its upper 16 bits, 0 to 65535. */
    private static int draw(int z) {
        return (int) ((z & 0xffffffffL) / 65536);
    }

    /** The least z from 0 on whose first draw leaves one by guests, whose second leaves rest by 100. */
    private static int seedFor(int one, int guests, int rest) {
        for (int z = 0; z < 10_000_000; z++) {
            int first = next(z);
            if (draw(first) % guests == one && draw(next(first)) % 100 == rest) {
                return z;
            }
        }
        throw new IllegalStateException("no such z");
    }

    private static KinCutlery table(int guests, int slip) {
        KinCutlery x = new KinCutlery();
        for (int g = 0; g < guests; g++) {
            x.guest(Edge.ACTUARY, 5);
        }
        x.set(Edge.SLIP, slip);
        return x;
    }

    /** "if there are GUESTS, a draw": else none, but a COURSE. */
    static void nobodyNoDraw(Due t) {
        KinCutlery x = new KinCutlery();
        x.set(Edge.SLIP, 99);
        x.seed(77);
        t.due("course()", x.course(), 0);
        t.due("COURSE", x.state(0), 1);
        t.due("z", x.seed(0), 77);
    }

    /** "if what that leaves by 100 is below SLIP": just below, and just not. */
    static void justBelowSlip(Due t) {
        int[] rests = {0, 1, 49, 97, 98};
        for (int rest : rests) {
            int z = seedFor(0, 3, rest);
            int second = next(next(z));
            int third = next(second);
            KinCutlery x = table(3, rest);
            x.seed(z);
            t.due("SLIP " + rest, x.course(), 0);
            t.due("no slip", x.of(0, 1), 5);
            t.due("two draws", x.seed(0), second);
            KinCutlery y = table(3, rest + 1);
            y.seed(z);
            t.due("SLIP " + (rest + 1), y.course(), 0);
            t.due("a slip", y.of(0, 1), draw(third) % 8);
            t.due("three draws", y.seed(0), third);
        }
    }

    /** SLIP 0: never, though a rest of 0 be drawn. SLIP 99: not by a rest of 99. */
    static void leastAndGreatestSlip(Due t) {
        KinCutlery x = table(1, 0);
        x.seed(seedFor(0, 1, 0));
        x.course();
        t.due("SLIP 0", x.of(0, 1), 5);
        KinCutlery y = table(1, 99);
        int z = seedFor(0, 1, 99);
        y.seed(z);
        y.course();
        t.due("SLIP 99 by 99", y.of(0, 1), 5);
        t.due("two draws", y.seed(0), next(next(z)));
    }

    /** "the one that it leaves by how many there are": 1 to 8, the first and the last. */
    static void theOneByHowManyThereAre(Due t) {
        for (int guests = 1; guests <= 8; guests++) {
            for (int one = 0; one < guests; one++) {
                int z = seedFor(one, guests, 3);
                int piece = draw(next(next(next(z)))) % 8;
                KinCutlery x = table(guests, 4);
                for (int g = 0; g < guests; g++) {
                    x.give(g, (piece + 1) % 8);
                }
                x.seed(z);
                x.course();
                for (int g = 0; g < guests; g++) {
                    t.due(one + " of " + guests + ": HOLDS of " + g, x.of(g, 1), g == one ? piece : (piece + 1) % 8);
                }
            }
        }
    }

    /** Each piece, 0 and 7 too, can come by the third draw. */
    static void eachPiece(Due t) {
        boolean[] came = new boolean[8];
        for (int seed = 0; seed < 60; seed++) {
            KinCutlery x = table(1, 99);
            x.seed(seed);
            x.course();
            if (draw(next(next(seed))) % 100 < 99) {
                int piece = draw(next(next(next(seed)))) % 8;
                came[piece] = true;
                t.due("from z " + seed, x.of(0, 1), piece);
            }
        }
        for (int piece = 0; piece < 8; piece++) {
            t.due("piece " + piece + " came", came[piece] ? 1 : 0, 1);
        }
    }

    /** "z >>> 16 is drawn": a z below 0 draws 32768 and more; the ints wrap. */
    static void drawsOfZBelow0(Due t) {
        int[] seeds = {Edge.LEAST, Edge.MOST, -1, 0, 1, 12345};
        boolean below = false;
        for (int seed : seeds) {
            int first = next(seed);
            int second = next(first);
            int third = next(second);
            below |= first < 0 || second < 0 || third < 0;
            KinCutlery x = table(7, 99);
            x.seed(seed);
            x.course();
            boolean slips = draw(second) % 100 < 99;
            t.due("HOLDS", x.of(draw(first) % 7, 1), slips ? draw(third) % 8 : 5);
            t.due("z", x.seed(0), slips ? third : second);
        }
        t.due("some are below 0", below ? 1 : 0, 1);
    }

    /** Who is DROWNED may be drawn like any other. */
    static void theDrownedSlipToo(Due t) {
        KinCutlery x = table(1, 99);
        x.sink(0, 1, 1);
        int z = seedFor(0, 1, 7);
        x.seed(z);
        x.give(0, (draw(next(next(next(z)))) + 1) % 8);
        x.course();
        t.due("HOLDS", x.of(0, 1), draw(next(next(next(z)))) % 8);
    }

    /** "then a COURSE": who slips to NEXT tells in it. */
    static void firstTheSlipThenTheCourse(Due t) {
        int z = 0;
        while (draw(next(next(z))) % 100 >= 50 || draw(next(next(next(z)))) % 8 != 6) {
            z++;
        }
        KinCutlery x = Edge.feasted("girl with 0 gone 1;told 14;slip 50;");
        x.seed(z);
        t.due("course(): 1 and 9", x.course(), 15);
        t.due("TELLS", x.of(0, 3), 1);
        t.due("COURSE", x.state(0), 1);
        KinCutlery away = Edge.feasted("girl with 5 gone 50;told 13;slip 50;");
        away.seed(z);
        t.due("who slips away tells nothing", away.course(), 13);
    }
}
