import java.util.Random;

/** Long runs of calls by a fixed seed: the class and the model must answer the same. */
public final class ModelTest {
    private static final int RUNS = 1500, CALLS = 512, DEAR = 60;
    private static final String[] WORDS = {"guest", "niece", "actuary", "heir", "clerk", "girl", "with", "gone",
        "drowned", "told", "breath", "salt", "depth", "slip", ";", " ", "0", "7", "8", "99", "100", "1000", "x", ","};

    private final Random random;
    private final KinCutlery x = new KinCutlery();
    private final Model m = new Model();
    private final StringBuilder told = new StringBuilder();
    private final boolean lively;
    private int dear;
    private String call;
    private long got;
    private long want;

    private ModelTest(long seed) {
        random = new Random(seed);
        lively = seed % 2 == 0;
    }

    public static void main(String[] args) {
        int wrong = 0;
        long answers = 0;
        for (int seed = 0; seed < RUNS && wrong < 5; seed++) {
            ModelTest t = new ModelTest(seed);
            for (int i = 0; i < CALLS; i++) {
                t.step();
                answers++;
                if (t.got != t.want) {
                    wrong++;
                    System.out.println("seed " + seed + ":" + t.told + "\n" + t.call + " answered " + t.got + ", due is " + t.want);
                    break;
                }
            }
        }
        System.out.println(answers + " answers, " + wrong + " runs not as due");
        if (wrong != 0) {
            System.exit(1);
        }
    }

    /** Mostly least to most; now and then just beyond, or far beyond. */
    private int some(int least, int most) {
        switch (random.nextInt(40)) {
            case 0: return least - 1;
            case 1: return most + 1;
            case 2: return least;
            case 3: return most;
            case 4: return random.nextInt(4) > 0 ? least : random.nextBoolean() ? Integer.MIN_VALUE : Integer.MAX_VALUE;
            default: return most < least ? least : least + random.nextInt(most - least + 1);
        }
    }

    private int one() {
        return some(0, Math.max(0, x.many(0) - 1));
    }

    private int any() {
        int[] odd = {0, 1, -1, Integer.MIN_VALUE, Integer.MAX_VALUE, 127, 128, 255, -128, -129, 32767, 32768, -32769};
        return random.nextInt(3) == 0 ? random.nextInt() : random.nextInt(3) == 0 ? odd[random.nextInt(odd.length)] : random.nextInt(41) - 20;
    }

    private void answered(String name, long g, long w, long... args) {
        StringBuilder b = new StringBuilder(name).append('(');
        for (int i = 0; i < args.length; i++) {
            b.append(i == 0 ? "" : ", ").append(args[i]);
        }
        call = b.append(')').toString();
        told.append(' ').append(call).append('=').append(g);
        got = g;
        want = w;
    }

    private void feedText(String text) {
        for (int i = 0; i < text.length() && got == want; i += 8) {
            int n = Math.min(8, text.length() - i);
            long eight = random.nextLong() << 8 * n % 64;
            if (n == 8) {
                eight = 0;
            }
            for (int k = 0; k < n; k++) {
                eight |= (text.charAt(i + k) & 255L) << (8 * k);
            }
            answered("feed", x.feed(eight, n), m.feed(eight, n), eight, n);
        }
    }

    private String text() {
        StringBuilder b = new StringBuilder();
        if (random.nextInt(3) == 0) {
            for (int i = random.nextInt(12); i > 0; i--) {
                b.append(WORDS[random.nextInt(WORDS.length)]).append(random.nextBoolean() ? " " : "");
            }
            return b.toString();
        }
        for (int i = random.nextInt(10); i > 0; i--) {
            int w = random.nextInt(13);
            if (w < 8) {
                b.append(WORDS[w % 6]).append(" with ").append(random.nextInt(8));
                b.append(random.nextBoolean() ? " gone " + random.nextInt(100) : "");
                b.append(random.nextInt(8) == 0 ? " drowned" : "").append(";");
            } else {
                b.append(WORDS[w + 1]).append(" ").append(random.nextInt(w == 8 ? 1000 : w < 11 ? 10 : 100)).append("; ");
            }
        }
        if (random.nextInt(4) == 0 && b.length() > 0) {
            int at = random.nextInt(b.length());
            if (random.nextBoolean()) {
                b.deleteCharAt(at);
            } else {
                b.insert(at, " ;a09zA{`/:".charAt(random.nextInt(11)));
            }
        }
        return b.length() > 200 ? b.substring(0, 200) : b.toString();
    }

    /** Eight with all the pieces, none drowned: else the tale soon stands still. */
    private void enliven() {
        for (int i = x.many(0); i < 8; i++) {
            int kind = random.nextInt(6);
            answered("guest", x.guest(kind, 0), m.guest(kind, 0), kind, 0);
        }
        int from = random.nextInt(8);
        int by = 1 + 2 * random.nextInt(4);
        for (int g = 0; g < 8 && got == want; g++) {
            int piece = (from + by * g) % 8;
            int gone = random.nextInt(100);
            answered("give", x.give(g, piece), m.give(g, piece), g, piece);
            x.sink(g, 1, 0);
            m.sink(g, 1, 0);
            answered("sink", x.sink(g, 0, gone), m.sink(g, 0, gone), g, 0, gone);
        }
        int depth = random.nextInt(3) == 0 ? random.nextInt(100) : 99;
        answered("set", x.set(2, depth), m.set(2, depth), 2, depth);
    }

    private void step() {
        if (lively && random.nextInt(15) == 0) {
            enliven();
            return;
        }
        int what = random.nextInt(52);
        if (what < 12) {
            change(what);
        } else if (what < 24) {
            ask(what);
        } else if (what < 33) {
            if (dear++ < DEAR) {
                search(what);
            }
        } else if (what < 42) {
            rowsAndSheets(what);
        } else {
            things(what);
        }
    }

    private void change(int what) {
        int g = one();
        int a;
        int b;
        switch (what) {
            case 0: a = some(0, 3); b = some(0, a < 2 ? 9 : 99); answered("set", x.set(a, b), m.set(a, b), a, b); break;
            case 1: case 2: a = some(0, 5); b = some(0, 7); answered("guest", x.guest(a, b), m.guest(a, b), a, b); break;
            case 3: a = some(0, 5); answered("mind", x.mind(g, a), m.mind(g, a), g, a); break;
            case 4: a = some(0, 7); answered("give", x.give(g, a), m.give(g, a), g, a); break;
            case 5: case 6: a = some(0, 1) % 2; b = some(0, a == 0 ? 99 : 1); answered("sink", x.sink(g, a, b), m.sink(g, a, b), g, a, b); break;
            case 7: a = random.nextInt(3) > 0 ? some(1, 3) : some(1, 60); answered("courses", x.courses(a), m.courses(a), a); break;
            case 8: a = any(); answered("seed", x.seed(a), m.seed(a), a); break;
            case 9: answered("course", x.course(), m.course()); break;
            case 10: answered("keep", x.keep(), m.keep()); break;
            default:
                if (random.nextInt(4) == 0) {
                    answered("again", x.again(), m.again());
                } else if (random.nextInt(4) == 0) {
                    feedText(text());
                    if (got == want) {
                        answered("feast", x.feast(), m.feast());
                    }
                } else {
                    a = some(1, 8);
                    long eight = random.nextLong();
                    answered("feed", x.feed(eight, a), m.feed(eight, a), eight, a);
                    if (random.nextBoolean()) {
                        answered("feast", x.feast(), m.feast());
                    }
                }
        }
    }

    private void ask(int what) {
        int g = one();
        int a;
        int b;
        int c;
        switch (what) {
            case 12: a = some(0, 3); answered("lawOf", x.lawOf(a), m.lawOf(a), a); break;
            case 13: a = some(0, 4); answered("of", x.of(g, a), m.of(g, a), g, a); break;
            case 14: a = some(0, 2); answered("does", x.does(g, a), m.does(g, a), g, a); break;
            case 15: a = some(0, 5); answered("state", x.state(a), m.state(a), a); break;
            case 16: a = some(0, 60); answered("deep", x.deep(g, a), m.deep(g, a), g, a); break;
            case 17: a = some(0, 60); answered("tale", x.tale(a), m.tale(a), a); break;
            case 18: a = some(0, 8); b = some(0, Math.max(0, Math.min(8, a))); c = some(0, 1); answered("odds", x.odds(a, b, c), m.odds(a, b, c), a, b, c); break;
            case 19: a = some(0, 99); c = some(0, 1); answered("hope", x.hope(a, c), m.hope(a, c), a, c); break;
            case 20: case 21: a = some(0, 6); answered("many", x.many(a), m.many(a), a); break;
            case 22: a = some(1, 30); answered("luck", x.luck(a), m.luck(a), a); break;
            default: a = some(0, 4); answered("of", x.of(g, a), m.of(g, a), g, a); break;
        }
    }

    private void search(int what) {
        int g = one();
        int a = random.nextBoolean() ? some(1, 6) : some(1, 40);
        int b;
        switch (what) {
            case 24: answered("speaks", x.speaks(g), m.speaks(g), g); break;
            case 25: answered("sinks", x.sinks(g), m.sinks(g), g); break;
            case 26: answered("whole", x.whole(), m.whole()); break;
            case 27: answered("pieceFor", x.pieceFor(g, a), m.pieceFor(g, a), g, a); break;
            case 28: answered("kindFor", x.kindFor(g, a), m.kindFor(g, a), g, a); break;
            case 29: answered("goneFor", x.goneFor(g, a), m.goneFor(g, a), g, a); break;
            case 30: answered("depthFor", x.depthFor(a), m.depthFor(a), a); break;
            default:
                a = random.nextInt(5) == 0 ? some(1, 20) : some(1, 5);
                b = random.nextInt(12) == 0 ? some(0, 99999) : x.state(1) + random.nextInt(2 + Math.floorMod(a, 21) * 3) - 1;
                answered("strangersFor", x.strangersFor(a, b), m.strangersFor(a, b), a, b);
        }
    }

    private void rowsAndSheets(int what) {
        int g = one();
        int s = some(0, 3);
        int a;
        int b;
        int v;
        switch (what) {
            case 33: a = some(1, 10); answered("prove", x.prove(g, a), m.prove(g, a), g, a); break;
            case 34: a = some(0, 9); b = some(0, 2); answered("row", x.row(a, b), m.row(a, b), a, b); break;
            case 35:
                a = some(0, 9);
                b = some(0, 2);
                v = any();
                if (random.nextInt(3) == 0) {
                    answered("alterRow", x.alterRow(a, b, v), m.alterRow(a, b, v), a, b, v);
                } else {
                    answered("judge", x.judge(g), m.judge(g), g);
                }
                break;
            case 36: a = some(-1, 3); b = some(0, 40); answered("sheet", x.sheet(s, a, b), m.sheet(s, a, b), s, a, b); break;
            case 37: case 38: a = some(0, 20); v = any(); answered("put", x.put(s, a, v), m.put(s, a, v), s, a, v); break;
            case 39: a = some(0, 3); b = some(0, 20); answered("item", x.item(s, a, b), m.item(s, a, b), s, a, b); break;
            case 40: a = some(0, 20); b = some(0, 8); answered("minds", x.minds(s, a, g, b), m.minds(s, a, g, b), s, a, g, b); break;
            default: fits(s, g);
        }
    }

    /** A sheet with what is told, but for some items, so that pieces do fit. */
    private void fits(int s, int g) {
        if (random.nextBoolean()) {
            int n = random.nextInt(6);
            int sort = random.nextInt(4);
            answered("sheet", x.sheet(s, sort, n), m.sheet(s, sort, n), s, sort, n);
            for (int i = 0; i < n && got == want; i++) {
                int v = random.nextInt(3) == 0 ? -1 : x.tale(i + 1) + (random.nextInt(5) == 0 ? 1 : 0);
                answered("put", x.put(s, i, v), m.put(s, i, v), s, i, v);
            }
        }
        int what = some(0, 1);
        if (got == want) {
            answered("fits", x.fits(s, g, what), m.fits(s, g, what), s, g, what);
        }
    }

    private void things(int what) {
        int s = some(0, 3);
        int a;
        int b;
        switch (what) {
            case 42: case 43:
                a = some(0, 2);
                b = a == 0 ? one() : some(0, 3);
                answered("shelf", x.shelf(s, a, b), m.shelf(s, a, b), s, a, b);
                break;
            case 44: case 45: a = random.nextBoolean() ? some(0, 5) : some(10, 13); answered("taken", x.taken(s, a), m.taken(s, a), s, a); break;
            case 46: a = random.nextInt(14); answered("trace", x.trace(a), m.trace(a), a); break;
            case 47: a = some(0, 29); answered("trace", x.trace(a), m.trace(a), a); break;
            default:
                a = some(0, 3);
                b = any();
                answered("act", x.act(s, a, b), m.act(s, a, b), s, a, b);
                for (int i = 0; i < 12 && got == want; i++) {
                    answered("trace", x.trace(i), m.trace(i), i);
                }
        }
    }
}
