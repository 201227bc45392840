/** Edges of promise 3: feast, and the TEXT that it takes. */
final class Promise03 {
    private static final String[] KINDS = {"guest", "niece", "actuary", "heir", "clerk", "girl"};
    private static final String EIGHT = "girl with 0;girl with 1;girl with 2;girl with 3;girl with 4;girl with 5;girl with 6;girl with 7;";

    private Promise03() {
    }

    private static void fault(Due t, String text, int place) {
        t.due("feast of '" + text + "'", Due.feastOf(text), -100 - place);
    }

    private static void guests(Due t, String text, int many) {
        t.due("feast of '" + text + "'", Due.feastOf(text), many);
    }

    /** "{ .. }": none at all, or blanks alone, is a TEXT. */
    static void emptyTape(Due t) {
        guests(t, "", 0);
        guests(t, " ", 0);
        guests(t, " ".repeat(200), 0);
    }

    /** "It is all by it alone (what it doesn't tell is as at first); z stays." */
    static void emptyTapeMakesAllAsAtFirst(Due t) {
        KinCutlery x = Edge.full();
        int z = x.seed(0);
        x.seed(z);
        x.feast();
        t.due("feast of nothing", x.feast(), 0);
        t.due("many(0)", x.many(0), 0);
        int[] first = {3, 2, 90, 20};
        for (int law = 0; law < 4; law++) {
            t.due("lawOf(" + law + ")", x.lawOf(law), first[law]);
        }
        for (int what = 0; what < 5; what++) {
            t.due("state(" + what + ")", x.state(what), 0);
        }
        t.due("z stays", x.seed(0), z);
    }

    /** "z stays": as it was seeded just before, whatever was tried with another, by an understood TEXT and by a refused one. */
    static void zStays(Due t) {
        int[] seeds = {0, -1, Edge.LEAST, Edge.MOST};
        for (int z : seeds) {
            KinCutlery x = Edge.girls(3);
            x.tale(3);
            x.seed(z);
            t.due("feast", Due.feastOn(x, "girl with 1;"), 1);
            t.due("z", x.seed(7), z);
            t.due("refused", Due.feastOn(x, "girl with 8;"), -110);
            t.due("z", x.seed(z), 7);
            t.due("feast of nothing", x.feast(), 0);
            t.due("z", x.seed(1), z);
        }
    }

    /** One told in the place of another before it has none of that one's GONE, TELLS, DROWNED. */
    static void newGuestsHaveNothingOfThoseBefore(Due t) {
        KinCutlery x = Edge.girls(9);
        x.courses(1);
        for (int g = 0; g < 8; g++) {
            x.sink(g, 1, 1);
        }
        t.due("feast", Due.feastOn(x, EIGHT), 8);
        for (int g = 0; g < 8; g++) {
            t.due("GONE (0 without) of " + g, x.of(g, 2), 0);
            t.due("TELLS of " + g, x.of(g, 3), 0);
            t.due("DROWNED of " + g, x.of(g, 4), 0);
        }
        t.due("COURSE", x.state(0), 0);
    }

    /** "with N": "HOLDS a piece (0 to 7 ..)" */
    static void piecesOf0To7(Due t) {
        for (String kind : KINDS) {
            int at = kind.length() + 6;
            for (int piece = 0; piece <= 7; piece++) {
                KinCutlery x = new KinCutlery();
                t.due(kind, Due.feastOn(x, kind + " with " + piece + ";"), 1);
                t.due("what it HOLDS", x.of(0, 1), piece);
            }
            fault(t, kind + " with 8;", at);
            fault(t, kind + " with 9;", at);
            fault(t, kind + " with 10;", at);
            fault(t, kind + " with 999;", at);
        }
    }

    /** "gone N": "GONE so far (0 to 99)" */
    static void goneOf0To99(Due t) {
        int[] allowed = {0, 1, 9, 10, 98, 99};
        for (int gone : allowed) {
            KinCutlery x = new KinCutlery();
            t.due("gone " + gone, Due.feastOn(x, "heir with 1 gone " + gone + ";"), 1);
            t.due("GONE", x.of(0, 2), gone);
        }
        fault(t, "heir with 1 gone 100;", 17);
        fault(t, "heir with 1 gone 999;", 17);
    }

    /** "[ drowned ]": with it and without, GONE or not. */
    static void drownedOrNot(Due t) {
        KinCutlery x = new KinCutlery();
        t.due("feast", Due.feastOn(x, "girl with 1;girl with 1 drowned;girl with 1 gone 99;girl with 1 gone 0 drowned;"), 4);
        int[] drowned = {0, 1, 0, 1};
        for (int g = 0; g < 4; g++) {
            t.due("DROWNED of " + g, x.of(g, 4), drowned[g]);
        }
        t.due("99 is not DROWNED yet", x.state(3), 10);
    }

    /** "told: TOLD (0 to 999)" */
    static void toldOf0To999(Due t) {
        int[] allowed = {0, 7, 8, 99, 100, 999};
        for (int told : allowed) {
            KinCutlery x = new KinCutlery();
            t.due("told " + told, Due.feastOn(x, "told " + told + ";"), 0);
            t.due("TOLD", x.state(1), told);
            t.due("NEXT", x.state(2), told % 8);
        }
        fault(t, "told 1000;", 5);
        fault(t, "told 9999;", 5);
    }

    /** "The others: the LAW": each in its own range. */
    static void lawsInTheirRanges(Due t) {
        String[] names = {"breath", "salt", "depth", "slip"};
        int[] most = {9, 9, 99, 99};
        for (int law = 0; law < 4; law++) {
            for (int v = 0; v <= most[law]; v += v == 0 ? most[law] - 1 : 1) {
                KinCutlery x = new KinCutlery();
                t.due(names[law] + " " + v, Due.feastOn(x, names[law] + " " + v + ";"), 0);
                t.due("the LAW", x.lawOf(law), v);
            }
            fault(t, names[law] + " " + (most[law] + 1) + ";", names[law].length() + 1);
            fault(t, names[law] + " 999;", names[law].length() + 1);
        }
    }

    /** "NUMBERS rows of digits (1 to 3)" */
    static void numbersOfOneToThreeDigits(Due t) {
        String[] sevens = {"7", "07", "007"};
        for (String seven : sevens) {
            KinCutlery x = new KinCutlery();
            t.due(seven, Due.feastOn(x, "guest with " + seven + " gone " + seven + ";told " + seven + ";salt " + seven + ";"), 1);
            t.due("HOLDS", x.of(0, 1), 7);
            t.due("GONE", x.of(0, 2), 7);
            t.due("TOLD", x.state(1), 7);
            t.due("SALT", x.lawOf(1), 7);
        }
        KinCutlery zero = new KinCutlery();
        t.due("000", Due.feastOn(zero, "breath 000;"), 0);
        t.due("BREATH", zero.lawOf(0), 0);
        fault(t, "told 0007;", 5);
        fault(t, "told 0000;", 5);
        fault(t, "guest with 0000;", 11);
        fault(t, "guest with 1 gone 0000;", 18);
        fault(t, "salt 0001;", 5);
    }

    /** A NUMBER as long as it goes: one that would wrap to a good one is none. */
    static void numbersThatWouldWrap(Due t) {
        fault(t, "told 4294967296;", 5);
        fault(t, "guest with 18446744073709551616;", 11);
        fault(t, "told " + "0".repeat(190) + ";", 5);
        fault(t, "told " + "9".repeat(195), 5);
    }

    /** "the NAME of a ninth one": eight fit, whatever else is told. */
    static void eightGuestsAndANinth(Due t) {
        guests(t, EIGHT, 8);
        guests(t, EIGHT + "told 5;slip 4;", 8);
        for (String kind : KINDS) {
            fault(t, EIGHT + kind + " with 1;", EIGHT.length());
            fault(t, EIGHT + "  " + kind, EIGHT.length() + 2);
            fault(t, EIGHT + "told 5; " + kind + " x", EIGHT.length() + 8);
        }
        fault(t, EIGHT + "guests", EIGHT.length());
        fault(t, EIGHT + "salt 10;guest with 1;", EIGHT.length() + 5);
    }

    /** "or the end (how many bytes there are), if more must come": blanks at the end are bytes, too. */
    static void endWhereMoreMustCome(Due t) {
        String[] begun = {"guest", "guest with", "guest with 3", "guest with 3 gone", "guest with 3 gone 5", "guest with 3 drowned",
            "guest with 3 gone 5 drowned", "told", "told 5", "breath", "breath 5", "salt", "depth 9", "slip", "told 5;slip"};
        for (String text : begun) {
            fault(t, text, text.length());
            fault(t, text + "   ", text.length() + 3);
        }
        guests(t, "guest with 3;", 1);
        guests(t, "guest with 3;   ", 1);
    }

    /** FAULTS at the first and at the last places that there can be. */
    static void leastAndGreatestFault(Due t) {
        fault(t, "x", 0);
        fault(t, ";", 0);
        fault(t, " ".repeat(199) + ";", 199);
        fault(t, " ".repeat(196) + "told", 200);
        fault(t, " ".repeat(194) + "told 5", 200);
        guests(t, " ".repeat(193) + "told 5;", 0);
    }

    /** "the first byte of the first NAME, NUMBER or other byte that can't stand there" */
    static void whatCannotStandThere(Due t) {
        String[] begun = {"", "guest ", "guest with ", "guest with 3 ", "guest with 3 gone ", "guest with 3 gone 4 ",
            "guest with 3 gone 4 drowned ", "guest with 3 drowned ", "told ", "told 5 ", "salt ", "salt 5 ", "told 5;"};
        String[] wants = {"KT", "w", "1", "gd;", "1", "d;", ";", ";", "1", ";", "1", ";", "KT"};
        String[] tokens = {"guest", "told", "with", "gone", "drowned", "1", ";", "x", "."};
        String[] sorts = {"K", "T", "w", "g", "d", "1", ";", "x", "."};
        for (int i = 0; i < begun.length; i++) {
            for (int k = 0; k < tokens.length; k++) {
                if (!wants[i].contains(sorts[k])) {
                    fault(t, begun[i] + tokens[k], begun[i].length());
                    fault(t, begun[i] + "  " + tokens[k] + " !", begun[i].length() + 2);
                }
            }
        }
    }

    /** "[ gone N ] [ drowned ]": in this order, each at most once. */
    static void goneAndDrownedOnceAndInOrder(Due t) {
        fault(t, "girl with 1 drowned gone 5;", 20);
        fault(t, "girl with 1 gone 5 gone 5;", 19);
        fault(t, "girl with 1 drowned drowned;", 20);
        fault(t, "girl drowned with 1;", 5);
        fault(t, "girl gone 5 with 1;", 5);
    }

    /** "NAMES are rows of letters a to z .. as long as they go": no letter less, more, other or capital. */
    static void namesJustAsTheyAre(Due t) {
        String[] names = {"guest", "niece", "actuary", "heir", "clerk", "girl", "told", "breath", "salt", "depth", "slip"};
        for (String name : names) {
            String rest = name.equals("guest") || name.equals("girl") || name.equals("niece") || name.equals("heir")
                || name.equals("clerk") || name.equals("actuary") ? " with 1;" : " 1;";
            int last = name.length() - 1;
            fault(t, name.substring(0, last) + rest, 0);
            fault(t, name.substring(1) + rest, 0);
            fault(t, name + "s" + rest, 0);
            fault(t, name + name + rest, 0);
            fault(t, name + "z" + rest, 0);
            fault(t, "z" + name + rest, 0);
            fault(t, "a" + name + rest, 0);
            fault(t, name.substring(0, last) + "q" + rest, 0);
            fault(t, "q" + name.substring(1) + rest, 0);
            fault(t, name.toUpperCase() + rest, 0);
            fault(t, name.substring(0, 2) + " " + name.substring(2) + rest, 0);
            t.due(name, Due.feastOf(name + rest) >= 0 ? 1 : 0, 1);
        }
        String[] inside = {"wit", "withs", "wiht", "gon", "gones", "drown", "drownedd"};
        for (String name : inside) {
            fault(t, "girl " + name + " 1;", 5);
            fault(t, "girl with 1 " + name + ";", 12);
        }
    }

    /** Bytes just beside a to z, 0 to 9, the blank and the ; are none of these. */
    static void bytesJustBeside(Due t) {
        char[] beside = {'`', '{', '/', ':', '<', 31, 33, 0, 9, 10, 13, 127, 128, 160, 187, 255, 'A', 'Z', '-', '+'};
        for (char c : beside) {
            fault(t, "" + c, 0);
            fault(t, "told" + c + "5;", 4);
            fault(t, "told " + c + ";", 5);
            fault(t, "told 5" + c, 6);
            fault(t, "told 5;" + c, 7);
            fault(t, "girl with 1 " + c + ";", 12);
        }
    }

    /** A NAME that is cut by another byte ends there. */
    static void namesEndAtOtherBytes(Due t) {
        fault(t, "gir-l with 1;", 0);
        fault(t, "girl-with 1;", 4);
        fault(t, "girl3with 1;", 4);
        fault(t, "girl with 1gone5gone;", 16);
    }

    /** "blanks (32) part them, and stand elsewhere as one likes" */
    static void blanksAsOneLikes(Due t) {
        guests(t, "girl with 1 gone 2 drowned;told 3;", 1);
        guests(t, "   girl   with   1   gone   2   drowned   ;   told   3   ;   ", 1);
        guests(t, "girl with1gone2drowned;told3;slip4;girl with5;", 2);
        fault(t, "girlwith 1;", 0);
        fault(t, "girl with 1 2;", 12);
        fault(t, "told 1 2;", 7);
        fault(t, "girl with 1 gonedrowned;", 12);
    }

    /** What is told twice is as it is told last. */
    static void theLastCounts(Due t) {
        KinCutlery x = new KinCutlery();
        t.due("feast", Due.feastOn(x, "told 9;salt 9;told 0;salt 0;depth 5;depth 99;"), 0);
        t.due("TOLD", x.state(1), 0);
        t.due("SALT", x.lawOf(1), 0);
        t.due("DEPTH", x.lawOf(2), 99);
    }

    /** A TEXT of just 200 bytes is read to its end. */
    static void twoHundredBytes(Due t) {
        String text = "told 1;".repeat(28) + "    ";
        t.due("bytes", text.length(), 200);
        guests(t, text, 0);
        String last = " ".repeat(4) + "told 1;".repeat(27) + "told 2;";
        KinCutlery x = new KinCutlery();
        t.due("feast", Due.feastOn(x, last), 0);
        t.due("the last one counts", x.state(1), 2);
        fault(t, last.substring(0, 199) + ".", 199);
    }

    /** "such a call changes nothing (but that THE TAPE is used up by feast())" */
    static void refusedChangesNothingButTheTape(Due t) {
        String[] texts = {"x", "told 5", EIGHT + "girl with 1;", "told 7;salt 3;breath 1;depth 2;slip 3;girl with 4 gone 5 drowned;salt 10;"};
        for (String text : texts) {
            KinCutlery x = Edge.full();
            x.feast();
            x.again();
            int answer = Due.feastOn(x, text);
            t.due("refused", answer <= -100 ? 1 : 0, 1);
            t.due("THE TAPE is used up", x.many(5), 0);
            KinCutlery twin = Edge.full();
            twin.feast();
            twin.again();
            Edge.same(t, "feast of '" + text + "'", Edge.seen(x), Edge.seen(twin));
        }
        KinCutlery x = Edge.few();
        Due.feedText(x, "?");
        t.due("refused with ROWS", x.feast(), -127);
        t.due("used up", x.many(5), 0);
        Edge.same(t, "feast with ROWS", Edge.seenButTape(x), Edge.seenButTape(Edge.few()));
    }

    /** "There are no ROWS then." */
    static void noRowsThen(Due t) {
        KinCutlery x = Edge.few();
        t.due("ROWS before", x.many(4), 4);
        t.due("feast", x.feast(), 1);
        t.due("many(4)", x.many(4), 0);
        for (int i = 0; i < 4; i++) {
            t.due("row(" + i + ", 0)", x.row(i, 0), Edge.NO_ROW);
        }
        t.due("judge without ROWS", x.judge(0), 0);
    }

    /** "THE TAPE becomes all: how many GUESTS": SHEETS, THE TRACE and what is kept are not of a feast; z stays. */
    static void whatFeastLeaves(Due t) {
        KinCutlery x = Edge.few();
        t.due("feast", x.feast(), 1);
        t.due("a SHEET", x.item(0, 0, 4), 81);
        t.due("THE TRACE", x.many(6), Edge.few().many(6));
        t.due("z", x.seed(0), Edge.few().seed(0));
        t.due("a SHELF with one that there still is", x.taken(0, 1), 0);
        t.due("a SHELF with one that there isn't", x.taken(3, 0), Edge.NOTHING);
        t.due("again", x.again(), 2);
    }
}
