import java.nio.file.Files;
import java.nio.file.Path;

/** "Terms", part 4: asks by bodies, the trace, and the headings of the interface. */
public final class Terms4Test {
    private static final String SIX = Due.FLAT + "tree ash 3 10 2;tree oak 5 20 3;tree yew 7 30 1;"
            + "tree hedge 9 40 4;tree false 11 50 5;tree ash 0 9 0;";

    public static void main(String[] args) throws Exception {
        traceIsLeft();
        body10();
        body11();
        body12();
        body13();
        body14();
        body20();
        body21();
        body22();
        body23();
        body24();
        nearestKind();
        headings();
        Told.end("Terms4Test", "Terms 4");
    }

    private static void asked(OneBench x, int tree, int what, int answer, int... bodies) {
        String call = "ask(" + tree + ", " + what + ")";
        Told.is(call, x.ask(tree, what), answer);
        for (int i = 0; i < 16; i++) {
            Told.is(call + ", trace " + i, x.trace(i), i < bodies.length ? bodies[i] : Due.NONE);
        }
    }

    private static void traceIsLeft() {
        Told.term(4, "ASKS of TREES, by BODIES, each of which leaves its number in THE TRACE as it begins (the first 16):");
        OneBench x = Due.bench(SIX);
        asked(x, 1, 0, -(20 + 1 + 5 + 1000), 12, 11, 10, 24, 21, 20);
        asked(x, 2, 0, 30, 10);
        asked(x, 5, 1, 5, 21, 20);
        Told.is("there is no 16", x.trace(16), Due.NONE);
    }

    private static void body10() {
        Told.term(4, "0 SIZE: 10 lent to all TREES: HEIGHT.");
        OneBench x = Due.bench(SIX);
        asked(x, 2, 0, 30, 10);
        x.years(5);
        asked(x, 2, 0, 35, 10);
        x.years(99);
        x.winter(1);
        asked(x, 2, 0, 99, 10);
    }

    private static void body11() {
        Told.term(4, "11 of ASHES: what 10 gives, and MARK.");
        OneBench x = Due.bench(SIX);
        asked(x, 0, 0, 10 + 0 + 3, 11, 10, 21, 20);
        asked(x, 5, 0, 9 + 5 + 0, 11, 10, 21, 20);
        x.years(2);
        x.clip(0, 9);
        x.move(0, 18);
        asked(x, 0, 0, 5 + 0 + 18, 11, 10, 21, 20);
        x.winter(1);
        asked(x, 0, 0, 0 + 0 + 18, 11, 10, 21, 20);
    }

    private static void body12() {
        Told.term(4, "12 of OAKS: 0 less what 11 gives.");
        OneBench x = Due.bench(SIX);
        x.clip(1, 99);
        x.winter(1);
        asked(x, 1, 0, -(0 + 1 + 5 + 1000), 12, 11, 10, 24, 21, 20);
        OneBench y = Due.bench(Due.FLAT + "tree oak 0 99 0;");
        asked(y, 0, 0, -(99 + 0 + 0 + 1000), 12, 11, 10, 24, 21, 20);
    }

    private static void body13() {
        Told.term(4, "13 of HEDGES: what 10 gives, less 100.");
        OneBench x = Due.bench(SIX);
        asked(x, 3, 0, -60, 13, 10);
        x.clip(3, 40);
        asked(x, 3, 0, -100, 13, 10);
    }

    private static void body14() {
        Told.term(4, "14 of FALSE ones: twice what 13 gives (asked once).");
        OneBench x = Due.bench(SIX);
        asked(x, 4, 0, -100, 14, 13, 10);
        OneBench y = Due.bench(Due.FLAT + "tree false 0 99 0;");
        asked(y, 0, 0, -2, 14, 13, 10);
    }

    private static void body20() {
        Told.term(4, "1 MARK: 20 lent to all TREES: its number.");
        OneBench x = Due.bench(SIX);
        for (int t = 0; t < 6; t++) {
            x.ask(t, 1);
            int last = 0;
            for (int i = 0; i < 16; i++) {
                last = x.trace(i) == 20 ? last + 1 : last;
            }
            Told.is("20 begins once, of tree " + t, last, 1);
        }
        OneBench y = Due.bench(Due.FLAT + "tree yew 2 1 0;tree hedge 3 1 0;tree false 0 1 0;tree ash 19 1 0;");
        asked(y, 1, 1, 1, 23, 20);
        asked(y, 2, 1, 2, 23, 20);
        asked(y, 3, 1, 3 + 19, 21, 20);
    }

    private static void body21() {
        Told.term(4, "21 of ASHES: what 20 gives, and SITE.");
        OneBench x = Due.bench(SIX);
        asked(x, 0, 1, 0 + 3, 21, 20);
        asked(x, 5, 1, 5 + 0, 21, 20);
        x.move(5, 18);
        asked(x, 5, 1, 5 + 18, 21, 20);
    }

    private static void body22() {
        Told.term(4, "22 of YEWS: what 20 gives, less SIZE.");
        OneBench x = Due.bench(SIX);
        asked(x, 2, 1, 2 - 30, 22, 20, 10);
        x.years(3);
        asked(x, 2, 1, 2 - 33, 22, 20, 10);
    }

    private static void body23() {
        Told.term(4, "23 of HEDGES: what 20 gives, and GROWS.");
        OneBench x = Due.bench(SIX);
        asked(x, 3, 1, 3 + 4, 23, 20);
        asked(x, 4, 1, 4 + 5, 23, 20);
    }

    private static void body24() {
        Told.term(4, "24 of OAKS: what 21 gives, and 1000.");
        OneBench x = Due.bench(SIX);
        asked(x, 1, 1, 1 + 5 + 1000, 24, 21, 20);
        x.move(1, 17);
        asked(x, 1, 1, 1 + 17 + 1000, 24, 21, 20);
    }

    private static void nearestKind() {
        Told.term(4, "(Of an ask the BODY told for the KIND begins, else that of the nearest KIND that it is, too, else the one "
                + "that is lent; SIZE, MARK within others are asked of the same TREE anew.)");
        OneBench x = Due.bench(SIX);
        asked(x, 4, 1, 9, 23, 20);
        asked(x, 2, 0, 30, 10);
        asked(x, 1, 0, -1026, 12, 11, 10, 24, 21, 20);
        asked(x, 2, 1, -28, 22, 20, 10);
        x.as(1, 1);
        asked(x, 1, 0, -1026, 12, 11, 10, 24, 21, 20);
        x.as(4, 4);
        asked(x, 4, 0, -100, 14, 13, 10);
    }

    /** In the source the calls stand behind the headings that the document tells, in its order. */
    private static void headings() throws Exception {
        String source = Files.readString(Path.of("src/main/java/OneBench.java"));
        String[] calls = {"`row`, `set`, `copy`, `drop`",
            "`feed`, `garden`, `fault`, `years`, `winter`, `clip`, `move`, `level`, `undo`, `tree`, `site`",
            "`seen`, `doubled`, `met`, `cut`, `plant`, `moon`, `path`, `picture`, `rival`, `image`, `restore`",
            "`kind`, `as`, `ask`, `trace`, `count`, `status`"};
        String[] headings = {"rows.", "gardens, days.", "seen.", "asked."};
        int at = 0;
        for (int i = 0; i < calls.length; i++) {
            Told.term(4, "Ahead of the calls " + calls[i] + " the interface says: ---- " + headings[i]);
            String line = "// ---- " + headings[i].substring(0, headings[i].length() - 1) + "\n";
            int heading = source.indexOf(line);
            Told.isSo("the heading stands behind what is ahead of it", heading > at);
            at = heading;
            for (String call : calls[i].replace("`", "").split(", ")) {
                int place = source.indexOf("    public int " + call + "(");
                Told.isSo(call + " stands in its place", place > at);
                at = place;
            }
        }
    }
}
