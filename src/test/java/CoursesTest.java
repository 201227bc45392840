/** Promises 12 to 16: courses, seed, course, luck, state. */
public final class CoursesTest {
    private static final Due T = new Due();
    private static final int LEAST = Integer.MIN_VALUE, MOST = Integer.MAX_VALUE;

    public static void main(String[] args) {
        refusals();
        oneTells();
        whoTells();
        breath();
        holding();
        drowning();
        mostTold();
        draws();
        luck();
        state();
        T.end();
    }

    private static void refusals() {
        KinCutlery x = new KinCutlery();
        x.guest(0, 0);
        int[] bad = {0, 61, -1, LEAST, MOST};
        for (int n : bad) {
            T.due("courses(" + n + ")", x.courses(n), -1);
        }
        int[] badLuck = {0, 31, -1, LEAST, MOST};
        for (int n : badLuck) {
            T.due("luck(" + n + ")", x.luck(n), -1);
        }
        int[] badState = {-1, 6, LEAST, MOST};
        for (int what : badState) {
            T.due("state(" + what + ")", x.state(what), -1);
        }
        T.due("nothing came of it", x.state(0) + x.of(0, 2), 0);
        T.due("courses(60)", x.courses(60), 1);
        T.due("COURSE", x.state(0), 60);
        T.due("courses(1)", x.courses(1), 1);
        T.due("COURSE", x.state(0), 61);
    }

    private static void oneTells() {
        KinCutlery x = new KinCutlery();
        x.guest(0, 0);
        for (int i = 1; i <= 4; i++) {
            T.due("not far enough", x.courses(1), 0);
            T.due("gone", x.of(0, 2), 4 * i);
        }
        T.due("at 20 it is told", x.courses(1), 1);
        T.due("and costs 10", x.of(0, 2), 10);
        T.due("tells", x.of(0, 3), 1);
        T.due("NEXT", x.state(2), 1);
        T.due("nobody has it", x.courses(9), 1);
        T.due("gone", x.of(0, 2), 46);
    }

    private static void whoTells() {
        KinCutlery x = new KinCutlery();
        for (int g = 0; g < 4; g++) {
            x.guest(0, g == 3 ? 1 : 0);
            x.sink(g, 0, 40);
        }
        x.sink(0, 1, 1);
        T.due("the least not drowned, then the next part", x.courses(1), 2);
        T.due("tells 0", x.of(0, 3), 0);
        T.due("tells 1", x.of(1, 3), 1);
        T.due("tells 2", x.of(2, 3), 0);
        T.due("tells 3", x.of(3, 3), 1);
        T.due("gone of the drowned stays", x.of(0, 2), 40);
        T.due("gone 1", x.of(1, 2), 34);
        T.due("gone 2", x.of(2, 2), 44);
        KinCutlery y = new KinCutlery();
        y.guest(0, 0);
        y.guest(5, 0);
        y.sink(1, 0, 1);
        T.due("the least that is far enough: 1 + 9 is 10", y.courses(1), 1);
        T.due("the girl told", y.of(1, 3), 1);
        T.due("at no cost", y.of(1, 2), 10);
    }

    private static void breath() {
        KinCutlery x = girls();
        for (int b = 0; b < 10; b++) {
            x.set(0, b);
            int before = x.state(1);
            T.due("breath " + b, x.courses(1), before + b);
        }
        T.due("many told", x.many(2), 8);
    }

    /** Eight girls with all the pieces, as far gone as can be, where nobody is drowned. */
    private static KinCutlery girls() {
        KinCutlery x = new KinCutlery();
        for (int g = 0; g < 8; g++) {
            x.guest(5, g);
            x.sink(g, 0, 99);
        }
        x.set(2, 99);
        return x;
    }

    private static void holding() {
        KinCutlery x = new KinCutlery();
        x.set(1, 9);
        x.set(2, 99);
        x.guest(4, 1);
        x.guest(3, 1);
        x.guest(3, 0);
        x.sink(0, 0, 3);
        x.sink(1, 0, 90);
        x.sink(2, 0, 0);
        x.courses(1);
        T.due("clerk held at 0", x.of(0, 2), 0);
        T.due("heir held at 99, then 5 less", x.of(1, 2), 94);
        T.due("heir takes 26, costs 5", x.of(2, 2), 21);
        T.due("told", x.state(1), 2);
        T.due("not drowned at 99", x.state(3), 0);
    }

    private static void drowning() {
        KinCutlery x = new KinCutlery();
        x.guest(0, 7);
        x.guest(0, 7);
        x.set(2, 50);
        x.sink(0, 0, 46);
        x.sink(1, 0, 47);
        x.courses(1);
        T.due("as deep as DEPTH is not drowned", x.of(0, 4), 0);
        T.due("deeper is", x.of(1, 4), 1);
        T.due("set of the drowned", x.state(3), 2);
        x.courses(1);
        T.due("both now", x.state(3), 3);
        T.due("the drowned stay as they are", x.of(1, 2), 51);
        T.due("raised", x.sink(1, 1, 0), 1);
        x.set(2, 99);
        x.courses(1);
        T.due("goes on", x.of(1, 2), 55);
        T.due("the other doesn't", x.of(0, 2), 54);
    }

    private static void mostTold() {
        KinCutlery x = girls();
        x.set(0, 9);
        int told = 0;
        for (int i = 0; i < 190; i++) {
            told = Math.min(99999, told + 540);
            T.due("courses(60)", x.courses(60), told);
        }
        T.due("TOLD", x.state(1), 99999);
        T.due("NEXT", x.state(2), 7);
        for (int g = 0; g < 8; g++) {
            T.due("TELLS of " + g, x.of(g, 3), 9999);
        }
        T.due("tale", x.tale(60), 99999);
        T.due("whole", x.whole(), -3);
        T.due("speaks", x.speaks(7), -3);
        T.due("strangersFor", x.strangersFor(1, 99999), 0);
        T.due("COURSE", x.state(0), 190 * 60);
    }

    /** z from 1 draws 16838, 38526 (26 by 100), 10113 (1 by 8). */
    private static void draws() {
        int behindTwo = (int) 2524885223L;
        int behindThree = 662824084;
        KinCutlery x = new KinCutlery();
        T.due("without guests", x.course(), 0);
        T.due("no draw", x.seed(1), 1);
        T.due("but a course", x.state(0), 1);
        for (int g = 0; g < 3; g++) {
            x.guest(0, 5);
            x.sink(g, 0, 19);
        }
        x.set(3, 26);
        x.keep();
        T.due("26 is not below 26", x.course(), 0);
        T.due("two draws", x.seed(1), behindTwo);
        T.due("no slip", x.of(2, 1), 5);
        x.again();
        x.set(3, 27);
        x.give(1, 0);
        T.due("a slip, then a course", x.course(), 2);
        T.due("three draws", x.seed(LEAST), behindThree);
        T.due("the third of three slipped", x.of(2, 1), 1);
        T.due("the others not", x.of(0, 1) + x.of(1, 1), 5);
        T.due("COURSE", x.state(0), 2);
        T.due("seed", x.seed(MOST), LEAST);
        T.due("seed", x.seed(0), MOST);
    }

    private static void luck() {
        KinCutlery x = new KinCutlery();
        T.due("nobody", x.luck(30), 0);
        x.guest(5, 1);
        x.sink(0, 0, 50);
        x.set(3, 99);
        x.seed(12345);
        long z = 12345;
        int lucky = 0;
        for (int n = 1; n <= 30; n++) {
            long[] draw = new long[3];
            for (int i = 0; i < 2; i++) {
                z = (z * 1103515245L + 12345) & 0xffffffffL;
                draw[i] = z >> 16;
            }
            if (draw[1] % 100 < 99) {
                z = (z * 1103515245L + 12345) & 0xffffffffL;
                lucky += (z >> 16) % 8 == 0 ? 1 : 0;
            }
            T.due("luck(" + n + ")", x.luck(n), lucky);
        }
        T.due("luck comes at all", lucky > 0 ? 1 : 0, 1);
        T.due("z stays", x.seed(0), 12345);
        T.due("all stays", x.of(0, 1) * 100 + x.of(0, 2), 150);
        T.due("no course", x.state(0), 0);
        x.give(0, 0);
        T.due("no more than without", x.luck(30), 0);
    }

    private static void state() {
        KinCutlery x = new KinCutlery();
        Due.feastOn(x, "guest with 5 gone 7;guest with 6 gone 99 drowned;guest with 7;guest with 0;told 13;");
        T.due("COURSE", x.state(0), 0);
        T.due("TOLD", x.state(1), 13);
        T.due("NEXT", x.state(2), 5);
        T.due("DROWNED", x.state(3), 2);
        T.due("GONE together", x.state(4), 106);
        T.due("GAP: the drowned one's", x.state(5), 6);
        x.sink(1, 1, 0);
        T.due("GAP goes round", x.state(5), 1);
        for (int piece = 1; piece < 5; piece++) {
            x.guest(0, piece);
        }
        T.due("no GAP", x.state(5), 8);
        x.sink(7, 1, 1);
        T.due("GAP far round", x.state(5), 4);
        T.due("DROWNED", x.state(3), 128);
    }
}
