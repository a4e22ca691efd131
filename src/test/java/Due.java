/** What the tests share: a count of wrong answers, and gardens told in text. */
final class Due {
    static final int NONE = OneBench.NONE, BAD = OneBench.BAD, STATE = OneBench.STATE, FULL = OneBench.FULL;
    static final int NULL = -1000011, PLACE = -1000012, KIND = -1000013, SIZE = -1000014, STORE = -1000015;
    static final String FLAT = "ground 0 0 0 0 0 0 0 0 0 0 0 0 0 0 0 0 0 0 0 0;";

    private static int wrong = 0;
    private static int asked = 0;

    private Due() {
    }

    static void is(String call, long got, long want) {
        asked++;
        if (got != want) {
            wrong++;
            System.out.println(call + " answered " + got + ", due is " + want);
        }
    }

    /** How many answers were compared so far. */
    static int asked() {
        return asked;
    }

    /** Feeds a text (characters 0 to 255), eight bytes at a time; what the last feed answered. */
    static int feed(OneBench x, String text) {
        int answer = 0;
        for (int i = 0; i < text.length(); i += 8) {
            int n = Math.min(8, text.length() - i);
            long w = 0;
            for (int k = 0; k < n; k++) {
                w = w << 8 | text.charAt(i + k);
            }
            answer = x.feed(w, n);
        }
        return answer;
    }

    static int read(OneBench x, String text) {
        feed(x, text);
        return x.garden();
    }

    /** A new object on which a garden stands. */
    static OneBench bench(String text) {
        OneBench x = new OneBench();
        int answer = read(x, text);
        if (answer < 0) {
            is("garden of " + text, answer, 0);
        }
        return x;
    }

    static void end(String test) {
        System.out.println(test + ": " + asked + " answers, " + wrong + " wrong");
        if (wrong != 0) {
            System.exit(1);
        }
    }
}
