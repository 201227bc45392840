/** Promises 2 (feed) and 3 (feast). */
public final class TapeTest {
    private static final Due T = new Due();

    public static void main(String[] args) {
        feed();
        texts();
        faults();
        whatFeastChanges();
        T.end();
    }

    private static void feed() {
        KinCutlery x = new KinCutlery();
        int[] bad = {0, 9, -1, Integer.MIN_VALUE, Integer.MAX_VALUE};
        for (int n : bad) {
            T.due("feed(0, " + n + ")", x.feed(0, n), -1);
        }
        T.due("many(5) behind refusals", x.many(5), 0);
        T.due("feed of one", x.feed(-1L, 1), 1);
        for (int i = 1; i <= 24; i++) {
            T.due("feed of eight", x.feed(0x2020202020202020L, 8), 1 + 8 * i);
        }
        T.due("feed to 201", x.feed(0, 8), -2);
        T.due("bad before full", x.feed(0, 9), -1);
        T.due("feed to 200", x.feed(0x20202020202020L, 7), 200);
        T.due("feed of one more", x.feed(0, 1), -2);
        T.due("many(5) at 200", x.many(5), 200);
        T.due("feast: byte 255 first", x.feast(), -100);
        T.due("many(5) behind feast", x.many(5), 0);
        x.feed(0x3b37206874697700L | 'x', 1);
        T.due("one byte alone of eight", x.feast(), -100);
        // "told 7;" and an eighth byte that n leaves out
        x.feed(0xff3b3720646c6f74L, 7);
        T.due("feast of seven bytes, lowest first", x.feast(), 0);
        T.due("told 7", x.state(1), 7);
    }

    private static void texts() {
        T.due("empty", Due.feastOf(""), 0);
        T.due("blanks", Due.feastOf("   "), 0);
        T.due("no blanks but between names", Due.feastOf("guest with 0;"), 1);
        T.due("blanks all over", Due.feastOf("  guest   with  0  gone  9  drowned  ;  told 3 ; "), 1);
        T.due("a name and a number part by themselves", Due.feastOf("girl with7gone99drowned;told999;"), 1);
        KinCutlery x = new KinCutlery();
        String all = "heir with 7 gone 99 drowned;clerk with 3 drowned;girl with 0 gone 0;"
            + "actuary with 6;niece with 5;guest with 4;told 999;breath 9;salt 9;depth 99;slip 99;";
        T.due("all sorts", Due.feastOn(x, all), 6);
        int[][] want = {{3, 7, 99, 0, 1}, {4, 3, 0, 0, 1}, {5, 0, 0, 0, 0}, {2, 6, 0, 0, 0}, {1, 5, 0, 0, 0}, {0, 4, 0, 0, 0}};
        for (int g = 0; g < want.length; g++) {
            for (int what = 0; what < 5; what++) {
                T.due("of(" + g + ", " + what + ")", x.of(g, what), want[g][what]);
            }
        }
        T.due("told", x.state(1), 999);
        T.due("breath", x.lawOf(0), 9);
        T.due("salt", x.lawOf(1), 9);
        T.due("depth", x.lawOf(2), 99);
        T.due("slip", x.lawOf(3), 99);
        T.due("the later one counts", Due.feastOn(x, "told 5;told 006;salt 000;salt 1;"), 0);
        T.due("told 006", x.state(1), 6);
        T.due("salt 1", x.lawOf(1), 1);
        T.due("eight", Due.feastOf("girl with 0;girl with 1;girl with 2;girl with 3;girl with 4;girl with 5;girl with 6;girl with 7;"), 8);
    }

    private static void fault(String text, int place) {
        T.due("feast of '" + text + "'", Due.feastOf(text), -100 - place);
    }

    private static void faults() {
        fault("guest", 5);
        fault("guest ", 6);
        fault("guest with", 10);
        fault("guest with 3", 12);
        fault("guest with 3  ", 14);
        fault("guest with 3 gone", 17);
        fault("guest with 3 gone 5", 19);
        fault("guest with 3 gone 5 drowned", 27);
        fault("guest with 3 drowned gone 5;", 21);
        fault("guest with 3 drowned drowned;", 21);
        fault("guest with 3 gone 5 gone 5;", 20);
        fault("guest with 8;", 11);
        fault("guest with 3 gone 100;", 18);
        fault("guest with 0003;", 11);
        fault("guest with 3 gone 0099;", 18);
        fault("guest with -1;", 11);
        fault("guest with x;", 11);
        fault("guest with ;", 11);
        fault("guest gone 3;", 6);
        fault("guest 3;", 6);
        fault("guestwith 3;", 0);
        fault(" guests with 3;", 1);
        fault("gues with 3;", 0);
        fault("Guest with 3;", 0);
        fault("guest With 3;", 6);
        fault("xuest with 3;", 0);
        fault("guest xith 3;", 6);
        fault("guest with 3 xone 3;", 13);
        fault("guest with 3 drownex;", 13);
        fault("zold 3;", 0);
        fault("zlip 3;", 0);
        fault("drizzle 3;", 0);
        fault("guest with 3 Gone 3;", 13);
        fault("guest with 3.", 12);
        fault("guest with 3 3;", 13);
        fault(";", 0);
        fault("told 3;;", 7);
        fault("told", 4);
        fault("told 3", 6);
        fault("told 1000;", 5);
        fault("told 999 9;", 9);
        fault("told;", 4);
        fault("breath 10;", 7);
        fault("salt 10;", 5);
        fault("depth 100;", 6);
        fault("slip 100;", 5);
        fault("slip 99999999999999999999;", 5);
        fault("course 1;", 0);
        fault("with 3;", 0);
        fault("drowned;", 0);
        fault("3;", 0);
        fault("told\t3;", 4);
        fault("told 3;\n", 7);
        fault("told 3;" + (char) 160, 7);
        fault("told 3;" + (char) 0, 7);
        fault("told 3;guest", 12);
        String eight = "guest with 0;guest with 0;guest with 0;guest with 0;guest with 0;guest with 0;guest with 0;guest with 0;";
        fault(eight + " niece with 9;", eight.length() + 1);
        fault(eight + "told 1;x", eight.length() + 7);
        fault(" ".repeat(199) + "x", 199);
        fault(" ".repeat(195) + "guest", 200);
    }

    private static void whatFeastChanges() {
        KinCutlery x = new KinCutlery();
        x.guest(5, 0);
        x.sink(0, 0, 50);
        x.set(1, 7);
        x.seed(77);
        x.courses(3);
        x.prove(0, 4);
        x.sheet(2, 1, 3);
        x.shelf(0, 0, 0);
        x.act(0, 0, 1);
        x.keep();
        T.due("feast refused", Due.feastOn(x, "told 5;guest with 1;salt 12;"), -125);
        T.due("tape used up", x.many(5), 0);
        T.due("guests stay", x.many(0), 1);
        T.due("salt stays", x.lawOf(1), 7);
        T.due("told stays", x.state(1), 1);
        T.due("course stays", x.state(0), 3);
        T.due("rows stay", x.many(4), 4);
        T.due("trace stays", x.many(6), 1);
        T.due("feast of one", Due.feastOn(x, "niece with 3;"), 1);
        T.due("no rows", x.many(4), 0);
        T.due("row(0, 0)", x.row(0, 0), -9);
        T.due("kind", x.of(0, 0), 1);
        T.due("gone at first", x.of(0, 2), 0);
        T.due("tells at first", x.of(0, 3), 0);
        T.due("salt at first", x.lawOf(1), 2);
        T.due("told at first", x.state(1), 0);
        T.due("course at first", x.state(0), 0);
        T.due("sheet stays", x.item(2, 1, 0), 0);
        T.due("shelf holds by number", x.taken(0, 1), 0);
        T.due("trace stays", x.many(6), 1);
        T.due("z stays", x.seed(0), 77);
        T.due("what is kept stays", x.again(), 1);
        T.due("kept kind", x.of(0, 0), 5);
        T.due("an empty tape clears the table", x.feast(), 0);
        T.due("no guests", x.many(0), 0);
        T.due("shelf holds nothing now", x.taken(0, 0), -11);
    }
}
