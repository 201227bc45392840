/** Edges of promise 12: courses, and what a COURSE is. */
final class Promise12 {
    private Promise12() {
    }

    /** "n COURSES (1 to 60): TOLD then." */
    static void oneAndSixty(Due t) {
        KinCutlery x = Edge.girls(1);
        t.due("courses(1)", x.courses(1), 1);
        t.due("COURSE", x.state(0), 1);
        t.due("courses(60)", x.courses(60), 61);
        t.due("COURSE", x.state(0), 61);
    }

    static void otherNumbersAreBad(Due t) {
        Edge.badBeyond(t, Edge::few, "courses(..)", 1, 60, (x, n) -> x.courses(n));
    }

    /** Sixty at once are sixty one by one. */
    static void sixtyAreSixtyTimesOne(Due t) {
        KinCutlery x = Edge.full();
        KinCutlery y = Edge.full();
        x.courses(60);
        for (int i = 0; i < 60; i++) {
            y.courses(1);
        }
        Edge.same(t, "courses(60)", Edge.seen(x), Edge.seen(y));
    }

    /** Without GUESTS, COURSE alone goes on. */
    static void nobody(Due t) {
        KinCutlery x = new KinCutlery();
        t.due("courses(60)", x.courses(60), 0);
        t.due("COURSE", x.state(0), 60);
        t.due("z", x.seed(0), 1);
    }

    /** "GONE as far as they NEED, or farther": by each KIND just as far, and 1 less. */
    static void justAsFarAsItNeeds(Due t) {
        int[][] least = { // KIND, SALT, GONE before the COURSE, GONE behind it
            {0, 0, 16, 10}, {0, 9, 16, 10}, {1, 0, 11, 5}, {1, 2, 9, 5}, {1, 9, 2, 5}, {2, 0, 28, 15}, {2, 9, 28, 15},
            {3, 0, 7, 10}, {3, 2, 1, 8}, {3, 9, 0, 21}, {4, 0, 26, 13}, {4, 1, 27, 14}, {4, 2, 28, 15}, {4, 9, 35, 22},
            {5, 0, 1, 10}, {5, 9, 1, 10}};
        for (int[] l : least) {
            String name = "kind " + l[0] + ", salt " + l[1];
            KinCutlery x = Edge.feasted("salt " + l[1] + ";");
            x.guest(l[0], 0);
            x.sink(0, 0, l[2]);
            int takes = x.does(0, 0) - 1000;
            t.due(name + ", just as far", x.courses(1), 1);
            t.due(name + ", GONE then", x.of(0, 2), l[3]);
            t.due(name + ", TELLS then", x.of(0, 3), 1);
            if (l[2] > 0) {
                KinCutlery y = Edge.feasted("salt " + l[1] + ";");
                y.guest(l[0], 0);
                y.sink(0, 0, l[2] - 1);
                t.due(name + ", 1 less", y.courses(1), 0);
                t.due(name + ", GONE then", y.of(0, 2), l[2] - 1 + takes);
                t.due(name + ", TELLS then", y.of(0, 3), 0);
            }
        }
    }

    /** "(held to 0 to 99)": at 99. */
    static void heldAt99(Due t) {
        int[][] gone = {{94, 98}, {95, 99}, {96, 99}, {98, 99}, {99, 99}};
        for (int[] g : gone) {
            KinCutlery x = Edge.feasted("guest with 1;depth 99;");
            x.sink(0, 0, g[0]);
            x.courses(1);
            t.due("from " + g[0], x.of(0, 2), g[1]);
        }
        KinCutlery heir = Edge.feasted("heir with 1 gone 80;depth 99;salt 9;");
        heir.courses(60);
        t.due("an heir's 26, sixty times", heir.of(0, 2), 99);
    }

    /** It is held before it tells: 99, less 10, not 103 less 10. */
    static void heldBeforeItTells(Due t) {
        KinCutlery x = Edge.feasted("guest with 0 gone 99;");
        t.due("courses(1)", x.courses(1), 1);
        t.due("GONE", x.of(0, 2), 89);
    }

    /** "(held to 0 to 99)": at 0, where a clerk TAKES less than nothing. */
    static void heldAt0(Due t) {
        int[][] gone = {{0, 0}, {1, 0}, {6, 0}, {7, 0}, {8, 1}};
        for (int[] g : gone) {
            KinCutlery x = Edge.feasted("clerk with 1;salt 9;");
            x.sink(0, 0, g[0]);
            x.courses(1);
            t.due("from " + g[0], x.of(0, 2), g[1]);
            x.courses(60);
            t.due("and sixty more", x.of(0, 2), 0);
        }
    }

    /** "As many times as BREATH tells": 0 to 9 times, round. */
    static void breathOf0To9(Due t) {
        for (int breath = 0; breath <= 9; breath++) {
            KinCutlery x = Edge.girls(breath);
            t.due("breath " + breath, x.courses(1), breath);
            for (int g = 0; g < 8; g++) {
                t.due("TELLS of " + g, x.of(g, 3), g == 0 && breath == 9 ? 2 : g < breath ? 1 : 0);
            }
        }
    }

    /** The ninth time by the first again, if it is still GONE as far as it NEEDS. */
    static void theFirstAgainIfFarEnough(Due t) {
        int[][] gone = {{26, 9, 10}, {25, 8, 19}};
        for (int[] g : gone) {
            KinCutlery x = Edge.girls(9);
            x.mind(0, Edge.GUEST);
            x.sink(0, 0, g[0]);
            t.due("courses(1)", x.courses(1), g[1]);
            t.due("GONE", x.of(0, 2), g[2]);
        }
    }

    /** "as long as it can be .. else nobody does, and (2) is over" */
    static void overWhereNobodyHasIt(Due t) {
        for (int missing = 0; missing < 8; missing++) {
            KinCutlery x = Edge.girls(9);
            x.give(missing, (missing + 1) % 8);
            t.due("without piece " + missing, x.courses(1), missing);
            t.due("nor by more", x.courses(60), missing);
        }
    }

    /** "the one of the least number tells it": of those that can. */
    static void theLeastNumberThatCan(Due t) {
        for (int can = 0; can < 8; can++) {
            KinCutlery x = new KinCutlery();
            for (int g = 0; g < 8; g++) {
                x.guest(Edge.GUEST, 0);
                x.sink(g, 0, g < can ? 15 : 16);
            }
            t.due("from " + can + " on", x.courses(1), 1);
            for (int g = 0; g < 8; g++) {
                t.due("TELLS of " + g, x.of(g, 3), g == can ? 1 : 0);
            }
        }
    }

    /** NEXT is "TOLD's rest by 8": behind 7 comes 0. */
    static void nextGoesRound(Due t) {
        KinCutlery x = Edge.feasted("girl with 7 gone 50;girl with 0 gone 50;told 7;");
        t.due("NEXT", x.state(2), 7);
        t.due("courses(1)", x.courses(1), 9);
        t.due("NEXT", x.state(2), 1);
    }

    /** "Each that is GONE farther than DEPTH is DROWNED": just as far is not. */
    static void fartherThanDepth(Due t) {
        int[] depths = {0, 1, 50, 90, 98, 99};
        for (int depth : depths) {
            KinCutlery x = Edge.feasted("clerk with 1;clerk with 1;"); // by SALT 2 a clerk TAKES nothing
            x.set(Edge.DEPTH, depth);
            x.sink(0, 0, depth);
            x.sink(1, 0, Math.min(99, depth + 1));
            x.courses(60);
            t.due("as far as " + depth, x.of(0, 4), 0);
            t.due("farther than " + depth, x.of(1, 4), depth == 99 ? 0 : 1);
        }
    }

    /** (3) is behind (2): who was too deep, but told, isn't DROWNED. */
    static void toldBeforeDrowned(Due t) {
        KinCutlery x = Edge.feasted("guest with 0 gone 99;guest with 1 gone 99;guest with 5 gone 87;depth 89;");
        t.due("courses(1)", x.courses(1), 2);
        t.due("those that told are at 89", x.state(3), 4);
        KinCutlery y = Edge.feasted("guest with 0 gone 99;depth 88;");
        t.due("courses(1)", y.courses(1), 1);
        t.due("too deep all the same", y.state(3), 1);
    }

    /** Who is DROWNED TAKES nothing, tells nothing, and stays so, though DEPTH be greater. */
    static void theDrownedStay(Due t) {
        KinCutlery x = Edge.feasted("girl with 0 gone 50 drowned;heir with 1 gone 0 drowned;depth 99;");
        t.due("courses(60)", x.courses(60), 0);
        t.due("GONE", x.of(0, 2), 50);
        t.due("GONE", x.of(1, 2), 0);
        t.due("DROWNED", x.state(3), 3);
    }

    /** What a girl TAKES is by NEXT at (1), before anything is told. */
    static void nextAsItIsAtFirst(Due t) {
        KinCutlery x = Edge.feasted("girl with 0 gone 20;girl with 1 gone 20;girl with 2 gone 5;");
        t.due("courses(1): the third is at 9", x.courses(1), 2);
        t.due("GONE of the first", x.of(0, 2), 29);
        t.due("GONE of the second", x.of(1, 2), 24);
        t.due("GONE of the third", x.of(2, 2), 9);
        t.due("courses(1): now at 18", x.courses(1), 3);
        t.due("GONE of the third", x.of(2, 2), 18);
    }

    /** "TOLD .. (99999 at most)", "TELLS .. (9999 at most)": then they stay. */
    static void toldAndTellsAtMost(Due t) {
        KinCutlery x = Edge.girls(9);
        int told = 0;
        for (int i = 0; i < 185; i++) {
            told += 540;
            t.due("courses(60)", x.courses(60), told);
            int g = i % 8;
            t.due("TELLS of " + g + " by " + told, x.of(g, 3), Math.min(9999, (told + 7 - g) / 8));
        }
        x.courses(10);
        x.set(Edge.BREATH, 1);
        t.due("99990 and 8", x.courses(8), 99998);
        t.due("NEXT", x.state(2), 6);
        t.due("tale(60)", x.tale(60), 99999);
        t.due("the last", x.courses(1), 99999);
        t.due("one more", x.courses(1), 99999);
        t.due("NEXT", x.state(2), 7);
        t.due("sixty more", x.courses(60), 99999);
        for (int g = 0; g < 8; g++) {
            t.due("TELLS of " + g, x.of(g, 3), 9999);
        }
        t.due("whole() from there", x.whole(), Edge.NONE);
        t.due("strangersFor(1, 99999)", x.strangersFor(1, 99999), 0);
    }
}
