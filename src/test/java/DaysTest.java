/** Promises 9 to 16: years, winter, clip, move, level, undo, tree, site. */
public final class DaysTest {
    private static final String SIX = Due.FLAT + "tree ash 1 10 2;tree oak 2 20 3;tree yew 3 30 1;"
            + "tree hedge 4 40 9;tree false 5 50 9;tree ash 19 99 0;";

    public static void main(String[] args) {
        heights();
        years();
        winters();
        clips();
        moves();
        levels();
        undoing();
        trees();
        sites();
        Due.end("DaysTest");
    }

    private static void heightsAre(OneBench x, String when, int... heights) {
        for (int t = 0; t < heights.length; t++) {
            Due.is(when + ": height of " + t, x.tree(t, 1), heights[t]);
        }
    }

    private static void heights() {
        OneBench x = Due.bench(SIX);
        heightsAre(x, "at first", 10, 20, 30, 40, 50, 99);
        x.years(10);
        heightsAre(x, "ten years on", 30, 50, 40, 40, 50, 99);
        x.winter(1);
        heightsAre(x, "winter", 0, 50, 40, 40, 50, 0);
        x.years(30);
        x.winter(0);
        heightsAre(x, "forty years on", 90, 99, 70, 40, 50, 99);
        x.clip(1, 9);
        heightsAre(x, "cut of what is 99 at most", 90, 90, 70, 40, 50, 99);
        x.years(99);
        heightsAre(x, "high", 99, 90, 99, 40, 50, 99);
    }

    private static void years() {
        OneBench x = Due.bench(SIX);
        Due.is("0", x.years(0), Due.BAD);
        Due.is("100", x.years(100), Due.BAD);
        Due.is("-1", x.years(-1), Due.BAD);
        Due.is("none is a day", x.count(4), 0);
        Due.is("1", x.years(1), 1);
        for (int i = 1; i <= 10; i++) {
            Due.is("99", x.years(99), 1 + 99 * i);
        }
        Due.is("above 999", x.years(9), Due.FULL);
        Due.is("BAD ahead of FULL", x.years(100), Due.BAD);
        Due.is("to 999", x.years(8), 999);
        Due.is("above 999", x.years(1), Due.FULL);
        Due.is("year", x.count(3), 999);
        Due.is("days", x.count(4), 12);
    }

    private static void winters() {
        OneBench x = Due.bench(SIX);
        Due.is("none yet", x.winter(1), 0);
        Due.is("count", x.count(5), 1);
        Due.is("again", x.winter(1), 1);
        Due.is("2", x.winter(2), Due.BAD);
        Due.is("-1", x.winter(-1), Due.BAD);
        Due.is("over", x.winter(0), 1);
        Due.is("over yet", x.winter(0), 0);
        Due.is("also such by which nothing becomes another", x.count(4), 4);
    }

    private static void clips() {
        OneBench x = Due.bench(SIX);
        Due.is("ash", x.clip(0, 4), 6);
        Due.is("more", x.clip(0, 99), 0);
        Due.is("what is cut", x.tree(0, 2), 103);
        Due.is("counts on", x.years(47), 47);
        Due.is("99 at most, less what is cut", x.tree(0, 1), 0);
        Due.is("oak", x.clip(1, 1), 98);
        Due.is("hedge", x.clip(3, 1), 39);
        Due.is("yew", x.clip(2, 1), Due.STATE);
        Due.is("false", x.clip(4, 1), Due.STATE);
        Due.is("BAD ahead of STATE", x.clip(2, 0), Due.BAD);
        Due.is("100", x.clip(0, 100), Due.BAD);
        Due.is("-1", x.clip(0, -1), Due.BAD);
        Due.is("no such tree", x.clip(6, 1), Due.BAD);
        Due.is("no such tree", x.clip(-1, 1), Due.BAD);
        Due.is("days", x.count(4), 5);
        x.winter(1);
        Due.is("in winter", x.clip(5, 9), 0);
        x.winter(0);
        Due.is("behind it", x.tree(5, 1), 90);
        OneBench y = Due.bench(Due.FLAT + "tree ash 1 10 2;");
        y.clip(0, 15);
        Due.is("0 at least", y.tree(0, 1), 0);
        y.years(4);
        Due.is("grows out", y.tree(0, 1), 3);
    }

    private static void moves() {
        OneBench x = Due.bench(SIX);
        Due.is("from 19", x.move(5, 18), 19);
        Due.is("yew", x.move(2, 10), 3);
        Due.is("to where it was", x.move(2, 3), 10);
        Due.is("to its own site", x.move(2, 3), Due.STATE);
        Due.is("to another's", x.move(2, 18), Due.STATE);
        Due.is("from 1", x.move(0, 17), 1);
        Due.is("to 1", x.move(1, 1), 2);
        x.undo();
        x.undo();
        Due.is("0", x.move(2, 0), Due.BAD);
        Due.is("19", x.move(2, 19), Due.BAD);
        Due.is("no such tree", x.move(6, 9), Due.BAD);
        Due.is("no such tree", x.move(-1, 9), Due.BAD);
        Due.is("days", x.count(4), 3);
        x.clip(0, 3);
        Due.is("cut ash", x.move(0, 17), 1);
        Due.is("is cut yet", x.tree(0, 1), 7);
        Due.is("site", x.tree(0, 0), 17);
        Due.is("nothing is there", x.site(1, 2), Due.NONE);
    }

    private static void levels() {
        OneBench x = Due.bench(SIX);
        x.row(0, 0, 40);
        x.row(1, 1, 20);
        x.row(2, 2, 19);
        for (int i = 0; i < 40; i++) {
            x.set(0, i, i);
        }
        Due.is("from 0", x.level(0, 0), 1);
        Due.is("ground", x.site(19, 0), 19);
        Due.is("from 20", x.level(0, 20), 1);
        Due.is("ground 0", x.site(0, 0), 20);
        Due.is("ground 19", x.site(19, 0), 39);
        Due.is("bar", x.site(1, 1), 31);
        Due.is("days", x.count(4), 2);
        Due.is("from 21", x.level(0, 21), Due.PLACE);
        Due.is("status 2", x.status(), 2);
        Due.is("from -1", x.level(0, -1), Due.PLACE);
        Due.is("highest", x.level(0, Integer.MAX_VALUE), Due.PLACE);
        Due.is("lowest", x.level(0, Integer.MIN_VALUE), Due.PLACE);
        Due.is("19 items", x.level(2, 0), Due.PLACE);
        Due.is("missing", x.level(3, -1), Due.NULL);
        Due.is("status 1", x.status(), 1);
        Due.is("-1", x.level(-1, 0), Due.BAD);
        Due.is("8", x.level(8, 0), Due.BAD);
        x.set(1, 19, 61);
        Due.is("61", x.level(1, 0), Due.BAD);
        Due.is("status stays", x.status(), 0);
        Due.is("61 beyond an end", x.level(1, 1), Due.PLACE);
        Due.is("61 again", x.level(1, 0), Due.BAD);
        Due.is("status stays", x.status(), 2);
        x.set(1, 19, 60);
        x.set(1, 0, -1);
        Due.is("-1", x.level(1, 0), Due.BAD);
        x.set(1, 0, 0);
        Due.is("0 to 60", x.level(1, 0), 1);
        Due.is("status 0", x.status(), 0);
        Due.is("ground 19", x.site(19, 0), 60);
        Due.is("days", x.count(4), 3);
        x.undo();
        Due.is("undone", x.site(19, 0), 39);
        x.undo();
        x.undo();
        Due.is("all undone", x.site(19, 0), 0);
    }

    private static void undoing() {
        OneBench x = Due.bench(SIX);
        x.row(0, 2, 20);
        Due.is("none", x.undo(), Due.STATE);
        x.years(10);
        x.clip(0, 5);
        x.move(5, 9);
        x.winter(1);
        x.level(0, 0);
        x.winter(1);
        Due.is("winter that was", x.undo(), 5);
        Due.is("winter", x.count(5), 1);
        Due.is("level", x.undo(), 4);
        Due.is("winter", x.undo(), 3);
        Due.is("no winter", x.count(5), 0);
        Due.is("move", x.undo(), 2);
        Due.is("to 19 again", x.tree(5, 0), 19);
        Due.is("clip", x.undo(), 1);
        Due.is("not cut", x.tree(0, 2), 0);
        Due.is("years", x.undo(), 0);
        Due.is("year", x.count(3), 0);
        Due.is("none", x.undo(), Due.STATE);
        for (int i = 1; i <= 60; i++) {
            Due.is("a year", x.years(1), i);
            Due.is("days", x.count(4), Math.min(i, 24));
        }
        for (int i = 1; i <= 24; i++) {
            Due.is("undone", x.undo(), 24 - i);
            Due.is("year", x.count(3), 60 - i);
        }
        Due.is("the oldest are forgotten", x.undo(), Due.STATE);
        Due.is("year", x.count(3), 36);
        for (int i = 1; i <= 25; i++) {
            x.clip(1, 1);
            x.undo();
        }
        Due.is("round the ring", x.tree(1, 2), 0);
        Due.is("refusals are no days", x.years(0), Due.BAD);
        Due.is("none", x.undo(), Due.STATE);
    }

    private static void trees() {
        OneBench x = Due.bench(SIX);
        int[] sites = {1, 2, 3, 4, 5, 19};
        int[] grows = {2, 3, 1, 9, 9, 0};
        for (int t = 0; t < 6; t++) {
            Due.is("site", x.tree(t, 0), sites[t]);
            Due.is("grows", x.tree(t, 3), grows[t]);
            Due.is("cut", x.tree(t, 2), 0);
        }
        Due.is("4", x.tree(0, 4), Due.BAD);
        Due.is("-1", x.tree(0, -1), Due.BAD);
        Due.is("6", x.tree(6, 0), Due.BAD);
        Due.is("-1", x.tree(-1, 0), Due.BAD);
    }

    private static void sites() {
        OneBench x = Due.bench("ground 9 8 7 6 5 4 3 2 1 0 1 2 3 4 5 6 7 8 9 60;tree ash 0 5 1;tree yew 19 3 1;");
        Due.is("ground", x.site(0, 0), 9);
        Due.is("bar", x.site(0, 1), 14);
        Due.is("tree", x.site(0, 2), 0);
        Due.is("ground", x.site(19, 0), 60);
        Due.is("bar", x.site(19, 1), 63);
        Due.is("tree", x.site(19, 2), 1);
        Due.is("bar without", x.site(8, 1), 1);
        Due.is("without", x.site(8, 2), Due.NONE);
        x.winter(1);
        Due.is("bare", x.site(0, 1), 9);
        Due.is("there yet", x.site(0, 2), 0);
        Due.is("20", x.site(20, 0), Due.BAD);
        Due.is("-1", x.site(-1, 0), Due.BAD);
        Due.is("3", x.site(0, 3), Due.BAD);
        Due.is("-1", x.site(0, -1), Due.BAD);
    }
}
