/** Promises 28 to 33: kind, as, ask, trace, count, status. */
public final class AskTest {
    private static final String SIX = Due.FLAT + "tree ash 3 10 2;tree oak 5 20 3;tree yew 7 30 1;"
            + "tree hedge 9 40 4;tree false 11 50 5;tree ash 13 9 0;";

    public static void main(String[] args) {
        kinds();
        taken();
        asks();
        traces();
        counts();
        statuses();
        Due.end("AskTest");
    }

    private static void kinds() {
        OneBench x = Due.bench(SIX);
        for (int t = 0; t < 6; t++) {
            Due.is("kind of " + t, x.kind(t), new int[] {1, 2, 3, 4, 5, 1}[t]);
        }
        Due.is("kind(6)", x.kind(6), Due.BAD);
        Due.is("kind(-1)", x.kind(-1), Due.BAD);
    }

    private static void taken() {
        OneBench x = Due.bench(SIX);
        String[] is = {"01", "012", "03", "04", "045"};
        for (int t = 0; t < 5; t++) {
            for (int k = 0; k < 6; k++) {
                boolean such = is[t].indexOf('0' + k) >= 0;
                Due.is("as(" + t + ", " + k + ")", x.as(t, k), such ? t : Due.KIND);
                Due.is("status", x.status(), such ? 0 : 3);
            }
        }
        Due.is("as(0, 6)", x.as(0, 6), Due.BAD);
        Due.is("as(0, -1)", x.as(0, -1), Due.BAD);
        Due.is("as(6, 0)", x.as(6, 0), Due.BAD);
        Due.is("as(-1, 0)", x.as(-1, 0), Due.BAD);
    }

    private static void asked(OneBench x, int tree, int what, int answer, int... bodies) {
        String call = "ask(" + tree + ", " + what + ")";
        Due.is(call, x.ask(tree, what), answer);
        for (int i = 0; i < 16; i++) {
            Due.is(call + " trace " + i, x.trace(i), i < bodies.length ? bodies[i] : Due.NONE);
        }
    }

    private static void asks() {
        OneBench x = Due.bench(SIX);
        x.years(2);
        asked(x, 0, 0, 14 + 3, 11, 10, 21, 20);
        asked(x, 0, 1, 3, 21, 20);
        asked(x, 1, 0, -(26 + 1 + 5 + 1000), 12, 11, 10, 24, 21, 20);
        asked(x, 1, 1, 1 + 5 + 1000, 24, 21, 20);
        asked(x, 2, 0, 32, 10);
        asked(x, 2, 1, 2 - 32, 22, 20, 10);
        asked(x, 3, 0, 40 - 100, 13, 10);
        asked(x, 3, 1, 3 + 4, 23, 20);
        asked(x, 4, 0, 2 * (50 - 100), 14, 13, 10);
        asked(x, 4, 1, 4 + 5, 23, 20);
        asked(x, 5, 0, 9 + 5 + 13, 11, 10, 21, 20);
        asked(x, 5, 1, 5 + 13, 21, 20);
        x.winter(1);
        x.move(0, 18);
        asked(x, 0, 0, 18, 11, 10, 21, 20);
        asked(x, 1, 0, -1032, 12, 11, 10, 24, 21, 20);
    }

    private static void traces() {
        OneBench x = Due.bench(SIX);
        Due.is("empty at first", x.trace(0), Due.NONE);
        x.ask(4, 0);
        Due.is("14", x.trace(0), 14);
        for (int[] bad : new int[][] {{6, 0}, {-1, 0}, {0, 2}, {0, -1}}) {
            Due.is("refused", x.ask(bad[0], bad[1]), Due.BAD);
            Due.is("it stays", x.trace(2), 10);
        }
        Due.is("-1", x.trace(-1), Due.NONE);
        Due.is("16", x.trace(16), Due.NONE);
        Due.is("highest", x.trace(Integer.MAX_VALUE), Due.NONE);
        Due.is("lowest", x.trace(Integer.MIN_VALUE), Due.NONE);
        Due.read(x, Due.FLAT);
        Due.is("it stays", x.trace(0), 14);
    }

    private static void counts() {
        OneBench x = Due.bench(SIX + "thing 1 1 show;thing 1 1 hide;");
        x.row(2, 0, 3);
        x.row(4, 1, 0);
        x.years(7);
        x.winter(1);
        x.clip(0, 1);
        x.feed(0, 5);
        int[] due = {2, 6, 2, 7, 3, 1, 5};
        for (int what = 0; what < 7; what++) {
            Due.is("count(" + what + ")", x.count(what), due[what]);
        }
        Due.is("count(7)", x.count(7), Due.BAD);
        Due.is("count(-1)", x.count(-1), Due.BAD);
    }

    private static void statuses() {
        OneBench x = Due.bench(SIX);
        Due.is("none yet", x.status(), 0);
        x.drop(0);
        Due.is("NULL", x.status(), 1);
        x.years(1);
        x.undo();
        x.kind(0);
        x.ask(0, 0);
        x.count(0);
        x.seen(0, 0);
        Due.is("calls without a row leave it", x.status(), 1);
        x.as(9, 0);
        x.as(0, 9);
        x.row(9, 0, 0);
        x.level(9, 0);
        Due.is("BAD leaves it", x.status(), 1);
        new OneBench().level(0, 0);
        x.as(0, 3);
        Due.is("KIND", x.status(), 3);
        x.as(0, 1);
        Due.is("taken", x.status(), 0);
        OneBench y = new OneBench();
        y.row(0, 0, -5);
        Due.is("SIZE", y.status(), 4);
        Due.is("no garden", y.level(1, 0), Due.STATE);
        Due.is("STATE leaves it", y.status(), 4);
        y.row(0, 0, 5);
        Due.is("made", y.status(), 0);
    }
}
