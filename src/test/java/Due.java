/** Counts and prints the answers that are not as due; a helper of the tests. */
final class Due {
    private int wrong;
    private int asked;
    private String test = "";

    /** Which test asks from here on. */
    void in(String name) {
        test = name + ": ";
    }

    void due(String call, long got, long want) {
        asked++;
        if (got != want) {
            wrong++;
            System.out.println(test + call + " answered " + got + ", due is " + want);
        }
    }

    /** A text fed eight bytes at a time: what the last feed answered. */
    static int feedText(KinCutlery x, String text) {
        int answer = 0;
        for (int i = 0; i < text.length(); i += 8) {
            int n = Math.min(8, text.length() - i);
            long eight = 0;
            for (int k = 0; k < n; k++) {
                eight |= (text.charAt(i + k) & 255L) << (8 * k);
            }
            answer = x.feed(eight, n);
        }
        return answer;
    }

    /** What feast() answers to a text on a new object's tape. */
    static int feastOf(String text) {
        return feastOn(new KinCutlery(), text);
    }

    static int feastOn(KinCutlery x, String text) {
        feedText(x, text);
        return x.feast();
    }

    void end() {
        System.out.println(asked + " answers, " + wrong + " not as due");
        if (wrong != 0 || asked == 0) {
            System.exit(1);
        }
    }
}
