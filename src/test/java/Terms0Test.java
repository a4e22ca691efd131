import java.util.List;

/** "Terms", ahead of its part 1: numbers, sets, refusals, findings. */
public final class Terms0Test {
    public static void main(String[] args) throws Exception {
        numbersGoFrom0();
        nothingIsRounded();
        setsAreBits();
        theFirstThatFits();
        bad();
        state();
        full();
        findingsInTime();
        nullRow();
        place();
        kind();
        size();
        store();
        nothingChanges();
        Told.end("Terms0Test", "Terms 0");
    }

    private static void numbersGoFrom0() {
        Told.term(0, "Numbers go from 0 on.");
        OneBench x = Due.bench(Due.FLAT + "tree oak 0 7 0;thing 1 9 show;");
        Told.is("row 0", x.row(0, 2, 1), 1);
        Told.is("item 0", x.set(0, 0, 5), 5);
        Told.is("no item 1 of one", x.set(0, 1, 5), Due.PLACE);
        Told.is("tree 0", x.tree(0, 1), 7);
        Told.is("no tree 1 of one", x.tree(1, 1), Due.BAD);
        Told.is("site 0", x.site(0, 1), 7);
        Told.is("thing 0", x.seen(0, 0), 1);
        Told.is("an ask", x.ask(0, 0), -1007);
        Told.is("number 0 of the trace", x.trace(0), 12);
        Told.is("image 0", x.image(0), 1);
    }

    private static void nothingIsRounded() {
        Told.term(0, "All that is divided is cut towards 0.");
        // From 0 to 20 of site 3 the line is 6 and 2 thirds, 13 and 1 third high: no part of it is lost.
        String[] bars = {"1 6 0;", "1 7 0;", "2 13 0;", "2 14 0;"};
        for (int i = 0; i < bars.length; i++) {
            OneBench x = Due.bench(Due.FLAT + "tree yew " + bars[i] + "thing 3 20 show;");
            Told.is("over a tree " + bars[i], x.seen(0, 0), i % 2 == 0 ? 1 : 0);
        }
    }

    private static void setsAreBits() {
        Told.term(0, "Sets are bits.");
        OneBench x = Due.bench(Due.FLAT + "tree yew 9 9 0;thing 5 1 show;thing 12 1 show;thing 7 1 show;"
                + "thing 8 1 show;thing 13 1 show;thing 10 99 show;");
        Told.is("things 0, 2, 3, 5", x.seen(0, 0), 1 | 4 | 8 | 32);
        Told.is("sites from which 1, 4 are not seen", x.path(0, 2 | 16), (1 << 9) - 1 | 63 << 13);
        OneBench y = Due.bench(Due.FLAT + "tree yew 5 20 0;thing 10 11 show;");
        Told.is("eyes 30 alone", y.met(1 << 30), 1 << 30);
        Told.is("eyes 29 and 30", y.met(3 << 29), 1 << 30);
        Told.is("no eye", y.met(0), 0);
    }

    private static void theFirstThatFits() {
        Told.term(0, "Refusals are answers, the first of these that fits, but as told:");
        OneBench x = Due.bench(Due.FLAT + "tree yew 3 9 9;tree oak 5 9 9;");
        Told.is("BAD, not SIZE", x.row(8, 0, -1), Due.BAD);
        Told.is("BAD, not NULL", x.set(8, -1, 0), Due.BAD);
        Told.is("BAD, not NULL", x.copy(0, 0, 8, 0, 1), Due.BAD);
        Told.is("BAD, not STATE, of a yew", x.clip(0, 100), Due.BAD);
        Told.is("BAD, not STATE, with a tree there", x.move(9, 5), Due.BAD);
        x.years(9);
        for (int i = 0; i < 10; i++) {
            x.years(99);
        }
        Told.is("BAD, not FULL", x.years(100), Due.BAD);
        Told.is("FULL", x.years(1), Due.FULL);
        OneBench none = new OneBench();
        Told.is("STATE, as told, ahead of BAD", none.years(100), Due.STATE);
        Told.is("BAD, as told, ahead of STATE", none.image(2), Due.BAD);
        Told.is("STATE, as told, ahead of NULL", none.level(0, 0), Due.STATE);
    }

    private static void bad() {
        Told.term(0, "BAD (a number is not as told; there is no such thing)");
        OneBench x = Due.bench(Due.FLAT + "tree oak 5 9 9;");
        Told.is("too small", x.years(0), -1000001);
        Told.is("too large", x.years(100), -1000001);
        Told.is("no such row", x.drop(8), -1000001);
        Told.is("no such tree", x.kind(1), -1000001);
        Told.is("no such site", x.site(20, 0), -1000001);
        Told.is("no such what", x.count(7), -1000001);
    }

    private static void state() {
        Told.term(0, "STATE (as told)");
        OneBench x = new OneBench();
        Told.is("no garden", x.winter(1), -1000002);
        Told.is("no day", x.undo(), -1000002);
        Told.is("no image", x.restore(0), -1000002);
    }

    private static void full() {
        Told.term(0, "FULL (as told)");
        OneBench x = new OneBench();
        for (int i = 0; i < 50; i++) {
            x.feed(0, 8);
        }
        Told.is("a full tape", x.feed(0, 1), -1000003);
    }

    private static void findingsInTime() {
        Told.term(0, "then FINDINGS, of several the first in time:");
        OneBench x = new OneBench();
        x.row(0, 0, 3);
        x.row(1, 1, 3);
        Told.is("a missing row ahead of its place", x.set(2, -1, 0), Due.NULL);
        Told.is("a missing row ahead of the place of the other", x.copy(0, -1, 2, 9, -1), Due.NULL);
        Told.is("a missing row, the other way", x.copy(2, -1, 0, 9, -1), Due.NULL);
        Told.is("the lanes ahead of the place", x.copy(0, -1, 1, 9, -1), Due.STORE);
        Told.is("the lanes ahead of none to copy", x.copy(0, 0, 1, 0, 0), Due.STORE);
        Told.is("then the place", x.copy(0, -1, 0, 9, -1), Due.PLACE);
    }

    private static void nullRow() {
        Told.term(0, "-1000010 less 1 NULL (a ROW that is missing)");
        OneBench x = new OneBench();
        Told.is("missing at first", x.set(0, 0, 0), -1000011);
        Told.is("status", x.status(), 1);
        x.row(0, 0, 1);
        x.drop(0);
        Told.is("missing again", x.drop(0), -1000011);
        Told.is("status", x.status(), 1);
    }

    private static void place() {
        Told.term(0, "2 PLACE (no such place of a ROW)");
        OneBench x = new OneBench();
        x.row(0, 0, 40);
        x.row(1, 0, 0);
        Told.is("40 of 40", x.set(0, 40, 0), -1000012);
        Told.is("status", x.status(), 2);
        Told.is("39 of 40", x.set(0, 39, 1), 1);
        Told.is("below", x.set(0, -1, 0), -1000012);
        Told.is("0 of an empty row", x.set(1, 0, 0), -1000012);
    }

    private static void kind() {
        Told.term(0, "3 KIND (a TREE that is not that)");
        OneBench x = Due.bench(Due.FLAT + "tree ash 5 9 9;");
        Told.is("an ash is no oak", x.as(0, 2), -1000013);
        Told.is("status", x.status(), 3);
    }

    private static void size() {
        Told.term(0, "4 SIZE (fewer than none)");
        OneBench x = new OneBench();
        Told.is("-1", x.row(0, 0, -1), -1000014);
        Told.is("status", x.status(), 4);
        Told.is("none", x.row(0, 0, 0), 0);
    }

    private static void store() {
        Told.term(0, "5 STORE (ROWS of two LANES)");
        for (int from = 0; from < 3; from++) {
            for (int to = 0; to < 3; to++) {
                OneBench x = new OneBench();
                x.row(0, from, 2);
                x.row(1, to, 2);
                Told.is("from " + from + " to " + to, x.copy(0, 0, 1, 0, 2), from == to ? 2 : -1000015);
                Told.is("status", x.status(), from == to ? 0 : 5);
            }
        }
    }

    private static void nothingChanges() {
        Told.term(0, "What is refused, or found, changes nothing but status().");
        OneBench x = Look.rich();
        Told.isSo("two alike are alike", Look.through(Look.rich()).equals(Look.through(x)));
        Look.staysBy("BAD of a number", y -> y.years(0), Due.BAD);
        Look.staysBy("BAD of an item", y -> y.level(1, Look.GROUNDS_FROM + 5), Due.BAD);
        Look.staysBy("STATE of a yew", y -> y.clip(2, 5), Due.STATE);
        Look.staysBy("NULL", y -> y.copy(0, 0, 5, 0, 3), Due.NULL);
        Look.staysBy("PLACE beyond the end by one", y -> y.copy(1, 0, 1, 21, 20), Due.PLACE);
        Look.staysBy("KIND", y -> y.as(2, 4), Due.KIND);
        Look.staysBy("SIZE", y -> y.row(0, 1, -1), Due.SIZE);
        Look.staysBy("STORE", y -> y.copy(0, 0, 1, 0, 20), Due.STORE);
        Look.staysByWithout("STATE", y -> y.winter(1), Due.STATE);
        List<Integer> ahead = Look.at(Look.rich());
        OneBench changed = Look.rich();
        changed.years(1);
        Told.isSo("a change would be seen", !ahead.equals(Look.at(changed)));
    }
}
