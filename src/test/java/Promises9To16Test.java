/** Promises 9 to 16, sentence by sentence: days, and what is told of trees and sites. */
public final class Promises9To16Test {
    private static final int LOW = Integer.MIN_VALUE, HIGH = Integer.MAX_VALUE;
    private static final String FIVE = Due.FLAT + "tree ash 2 9 1;tree oak 4 9 1;tree yew 6 9 1;tree hedge 8 9 1;"
            + "tree false 10 9 1;";

    public static void main(String[] args) throws Exception {
        yearsGoBy();
        yearsBad();
        yearsState();
        yearsFull();
        winterIs();
        winterBad();
        winterState();
        treeIsCut();
        clipBad();
        clipState();
        treeIsMoved();
        moveBad();
        moveState();
        groundIsLevelled();
        levelBad();
        levelState();
        levelNull();
        levelPlace();
        levelItem();
        dayIsUndone();
        undoState();
        treeIsTold();
        treeBad();
        siteIsTold();
        siteBad();
        siteState();
        Told.end("Promises9To16Test", "Promise 9", "Promise 10", "Promise 11", "Promise 12", "Promise 13",
                "Promise 14", "Promise 15", "Promise 16");
    }

    private static void yearsGoBy() {
        Told.at(9, "n YEARS (1 to 99) go by: YEAR.");
        OneBench x = Due.bench(FIVE);
        Told.is("the least", x.years(1), 1);
        Told.is("the most", x.years(99), 100);
        Told.is("others", x.years(50), 150);
        Told.is("count", x.count(3), 150);
        Told.is("days", x.count(4), 3);
        Told.is("a tree has grown", x.tree(0, 1), 99);
    }

    private static void yearsBad() {
        Told.at(9, "BAD;");
        Look.refuses(Due.BAD, "years", (x, n) -> x.years(n[0]), new int[] {99}, 0, 0, 100, -1, LOW, HIGH);
    }

    private static void yearsState() {
        Told.at(9, "STATE: no GARDEN (ahead of BAD);");
        Look.needsGarden("years", (x, n) -> x.years(n[0]), new int[] {1}, new int[] {0}, new int[] {100}, new int[] {LOW});
    }

    private static OneBench inYear(int year) {
        OneBench x = Due.bench(FIVE);
        for (int left = year; left > 0; left -= 99) {
            x.years(Math.min(99, left));
        }
        return x;
    }

    private static void yearsFull() {
        Told.at(9, "FULL: it would be above 999.");
        for (int n = 1; n <= 99; n += 7) {
            OneBench x = inYear(1000 - n);
            int days = x.count(4);
            Told.is("to 1000 by " + n, x.years(n), Due.FULL);
            Told.is("the year stays", x.count(3), 1000 - n);
            Told.is("no day", x.count(4), days);
            if (n > 1) {
                Told.is("to 999", x.years(n - 1), 999);
            }
            Told.is("beyond 999", x.years(1), Due.FULL);
            Told.is("far beyond", x.years(99), Due.FULL);
            Told.is("BAD is ahead of it", x.years(100), Due.BAD);
            Told.is("BAD is ahead of it", x.years(0), Due.BAD);
        }
        OneBench y = inYear(999);
        y.undo();
        Told.isSo("room again", y.years(1) < 999);
        Told.is("status stays", y.status(), 0);
    }

    private static void winterIs() {
        Told.at(10, "WINTER (1) or not (0): how it was.");
        OneBench x = Due.bench(FIVE);
        int was = 0;
        for (int is : new int[] {0, 1, 1, 0, 0, 1, 0}) {
            Told.is("winter(" + is + ")", x.winter(is), was);
            Told.is("it is", x.count(5), is);
            Told.is("the ash", x.tree(0, 1), is == 1 ? 0 : 9);
            was = is;
        }
        Told.is("days", x.count(4), 7);
    }

    private static void winterBad() {
        Told.at(10, "BAD;");
        Look.refuses(Due.BAD, "winter", (x, n) -> x.winter(n[0]), new int[] {0}, 0, -1, 2, LOW, HIGH);
    }

    private static void winterState() {
        Told.at(10, "STATE: no GARDEN (ahead of BAD).");
        Look.needsGarden("winter", (x, n) -> x.winter(n[0]), new int[] {1}, new int[] {2}, new int[] {-1});
    }

    private static void treeIsCut() {
        Told.at(11, "A TREE is CUT by n (1 to 99; also by more than it is high: what is CUT counts on as YEARS go by): HEIGHT then.");
        OneBench x = Due.bench(FIVE);
        Told.is("the least", x.clip(0, 1), 8);
        Told.is("the most", x.clip(1, 99), 0);
        Told.is("just as high as it is", x.clip(3, 9), 0);
        Told.is("more than it is high", x.clip(0, 20), 0);
        Told.is("what is cut", x.tree(0, 2), 21);
        Told.is("twelve years on it is 21, less 21", x.years(12) + x.tree(0, 1), 12);
        Told.is("thirteen years on", x.years(1) + x.tree(0, 1), 13 + 1);
        Told.is("a cut hedge stays", x.tree(3, 1), 0);
        Told.is("cut again", x.clip(0, 1), 0);
        Told.is("for ever at 0", x.years(99) + x.tree(1, 1), 112);
        x.winter(1);
        Told.is("a bare ash", x.clip(0, 2), 0);
        Told.is("what is cut", x.tree(0, 2), 24);
        Told.is("days", x.count(4), 10);
    }

    private static void clipBad() {
        Told.at(11, "BAD;");
        Look.Call clip = (x, n) -> x.clip(n[0], n[1]);
        Look.refuses(Due.BAD, "clip", clip, new int[] {5, 99}, 0, -1, 6, LOW, HIGH);
        Look.refuses(Due.BAD, "clip", clip, new int[] {0, 1}, 1, 0, 100, -1, LOW, HIGH);
        Look.staysByWithout("there is no tree", x -> x.clip(0, 1), Due.BAD);
        Look.staysBy("BAD is ahead of STATE", x -> x.clip(2, 0), Due.BAD);
    }

    private static void clipState() {
        Told.at(11, "STATE: it may not be.");
        Look.refuses(Due.STATE, "clip", (x, n) -> x.clip(n[0], n[1]), new int[] {0, 1}, 0, 2, 4);
        Look.refuses(Due.STATE, "clip", (x, n) -> x.clip(n[0], n[1]), new int[] {3, 99}, 0, 2, 4);
    }

    private static void treeIsMoved() {
        Told.at(12, "MOVED: the SITE where it was.");
        OneBench x = Due.bench(FIVE);
        Told.is("an ash to 1", x.move(0, 1), 2);
        Told.is("to 18", x.move(0, 18), 1);
        Told.is("a yew to where an ash was", x.move(2, 2), 6);
        Told.is("a false one", x.move(4, 6), 10);
        Told.is("its site", x.tree(4, 0), 6);
        Told.is("the tree of 6", x.site(6, 2), 4);
        Told.is("the bar of 6", x.site(6, 1), 9);
        Told.is("none at 10", x.site(10, 2), Due.NONE);
        Told.is("days", x.count(4), 4);
        Told.is("undone", x.undo() + x.tree(4, 0), 13);
        OneBench ends = Due.bench(Due.FLAT + "tree oak 0 9 1;tree yew 19 9 1;");
        Told.is("from site 0", ends.move(0, 9), 0);
        Told.is("from site 19", ends.move(1, 8), 19);
    }

    private static void moveBad() {
        Told.at(12, "BAD: TREE, SITE;");
        Look.Call move = (x, n) -> x.move(n[0], n[1]);
        Look.refuses(Due.BAD, "move", move, new int[] {0, 1}, 0, -1, 6, LOW, HIGH);
        Look.refuses(Due.BAD, "move", move, new int[] {5, 17}, 1, 0, 19, -1, 20, LOW, HIGH);
        Look.staysByWithout("there is no tree", x -> x.move(0, 1), Due.BAD);
        Look.staysBy("BAD is ahead of STATE", x -> x.move(6, 3), Due.BAD);
    }

    private static void moveState() {
        Told.at(12, "STATE: a TREE is there.");
        Look.refuses(Due.STATE, "move", (x, n) -> x.move(n[0], n[1]), new int[] {0, 1}, 1, 6, 7, 12, 14, 18);
        Look.staysBy("to its own site", x -> x.move(0, 3), Due.STATE);
        OneBench x = Due.bench(FIVE);
        x.winter(1);
        x.clip(1, 99);
        Told.is("a bare ash is there", x.move(2, 2), Due.STATE);
        Told.is("a tree of 0 is there", x.move(2, 4), Due.STATE);
        Told.is("a thing is none", Due.bench(FIVE + "thing 5 9 show;").move(0, 5), 2);
    }

    private static void groundIsLevelled() {
        Told.at(13, "The ground of SITES from a ROW: 20 ITEMS from i on, 0 to 60 (a DAY): 1.");
        for (int lane = 0; lane < 3; lane++) {
            OneBench x = Due.bench(FIVE);
            x.row(0, lane, 40);
            for (int i = 0; i < 40; i++) {
                x.set(0, i, i == 20 ? 0 : i == 39 ? 60 : i);
            }
            for (int from = 0; from <= 20; from += 10) {
                Told.is("from " + from, x.level(0, from), 1);
                for (int q = 0; q < 20; q++) {
                    int i = from + q;
                    Told.is("site " + q, x.site(q, 0), i == 20 ? 0 : i == 39 ? 60 : i);
                }
            }
            Told.is("days", x.count(4), 3);
            Told.is("trees stand on it", x.site(2, 1), 22 + 9);
            x.set(0, 20, 5);
            Told.is("the row may change then", x.site(0, 0), 0);
            x.drop(0);
            Told.is("or go", x.site(19, 0), 60);
            Told.is("undone", x.undo() + x.site(0, 0), 2 + 10);
            Told.is("all undone", x.undo() + x.undo() + x.site(19, 0), 1);
        }
        OneBench y = Due.bench(Due.FLAT + "tree yew 5 9 0;thing 10 1 show;");
        y.row(7, 0, 20);
        y.set(7, 10, 60);
        Told.is("not seen on flat ground", y.seen(0, 0), 0);
        Told.is("a hill at site 10", y.level(7, 0), 1);
        Told.is("the thing stands on it", y.seen(0, 0), 1);
    }

    private static void levelBad() {
        Told.at(13, "BAD: ROW;");
        Look.refuses(Due.BAD, "level", (x, n) -> x.level(n[0], n[1]), new int[] {0, 0}, 0, -1, 8, LOW, HIGH);
    }

    private static void levelState() {
        Told.at(13, "STATE: no GARDEN (ahead of BAD);");
        Look.needsGarden("level", (x, n) -> x.level(n[0], n[1]), new int[] {0, 0}, new int[] {8, 0}, new int[] {-1, -1});
        OneBench x = new OneBench();
        x.row(0, 0, -1);
        Told.is("ahead of NULL, PLACE", x.level(0, 99), Due.STATE);
        Told.is("status stays", x.status(), 4);
    }

    private static void levelNull() {
        Told.at(13, "NULL;");
        Look.refuses(Due.NULL, "level", (x, n) -> x.level(n[0], n[1]), new int[] {0, 0}, 0, 3, 7);
        Look.staysBy("ahead of PLACE", x -> x.level(3, -1), Due.NULL);
    }

    private static void levelPlace() {
        Told.at(13, "PLACE;");
        Look.Call level = (x, n) -> x.level(n[0], n[1]);
        Look.refuses(Due.PLACE, "level", level, new int[] {0, 0}, 1, -1, 1, 20, 21, LOW, HIGH);
        Look.refuses(Due.PLACE, "level", level, new int[] {1, 15}, 1, -1, 21, 40, 41, LOW, HIGH);
        Look.staysBy("an empty row", x -> x.level(2, 0), Due.PLACE);
        OneBench x = Due.bench(FIVE);
        x.row(0, 2, 19);
        Told.is("one item too few", x.level(0, 0), Due.PLACE);
        x.set(0, 0, 61);
        Told.is("ahead of the BAD of an item", x.level(0, 0), Due.PLACE);
        Told.is("status", x.status(), 2);
    }

    private static void levelItem() {
        Told.at(13, "then BAD: an ITEM.");
        for (int i = 0; i < 20; i++) {
            for (int v : new int[] {-1, 61, 127, -128}) {
                OneBench x = Due.bench("ground 7 7 7 7 7 7 7 7 7 7 7 7 7 7 7 7 7 7 7 7;");
                x.row(0, 0, 20);
                x.set(0, i, v);
                Told.is(v + " at " + i, x.level(0, 0), Due.BAD);
                Told.is("no part of it is done", x.site(0, 0) + x.site(19, 0), 14);
                Told.is("no day", x.count(4), 0);
                x.set(0, i, v < 0 ? 0 : 60);
                Told.is("well", x.level(0, 0), 1);
            }
        }
        Look.staysBy("61 at the last place", x -> x.level(1, 16), Due.BAD);
        Look.staysBy("61 at another", x -> x.level(1, 20), Due.BAD);
        OneBench x = Due.bench(FIVE);
        x.row(0, 2, 22);
        x.set(0, 0, LOW);
        x.set(0, 21, HIGH);
        Told.is("between them all is well", x.level(0, 1), 1);
        Told.is("lowest", x.level(0, 0), Due.BAD);
        Told.is("highest", x.level(0, 2), Due.BAD);
    }

    private static void dayIsUndone() {
        Told.at(14, "The latest DAY is undone: how many can be undone yet.");
        OneBench x = Due.bench(FIVE);
        x.years(3);
        x.clip(0, 4);
        x.winter(1);
        Told.is("winter", x.undo(), 2);
        Told.is("no winter", x.count(5), 0);
        Told.is("cut yet", x.tree(0, 2), 4);
        Told.is("cut", x.undo(), 1);
        Told.is("not cut", x.tree(0, 2), 0);
        x.move(0, 17);
        Told.is("moved", x.undo(), 1);
        Told.is("years", x.undo(), 0);
        Told.is("year", x.count(3), 0);
        for (int i = 1; i <= 30; i++) {
            x.years(1);
        }
        Told.is("of the 24 that are kept", x.undo(), 23);
        x.years(5);
        Told.is("kept again", x.count(4), 24);
        Told.is("undone again", x.undo() + x.count(3), 23 + 29);
    }

    private static void undoState() {
        Told.at(14, "STATE: none.");
        Look.staysByWithout("undo", x -> x.undo(), Due.STATE);
        OneBench x = Due.bench(FIVE);
        Told.is("a garden without days", x.undo(), Due.STATE);
        x.years(1);
        Due.read(x, FIVE);
        Told.is("the days of the one before", x.undo(), Due.STATE);
        x.image(0);
        x.years(1);
        x.restore(0);
        Told.is("behind restore", x.undo(), Due.STATE);
        x.years(0);
        x.clip(2, 1);
        x.move(0, 2);
        x.level(0, 0);
        Told.is("refusals are no days", x.undo(), Due.STATE);
        Told.is("status stays", x.status(), 1);
    }

    private static void treeIsTold() {
        Told.at(15, "Of a TREE: 0 SITE, 1 HEIGHT, 2 what is CUT, 3 GROWS.");
        OneBench x = Due.bench(Due.FLAT + "tree oak 0 1 0;tree ash 19 99 9;tree hedge 7 20 5;tree yew 8 20 3;");
        x.years(2);
        x.clip(2, 30);
        int[][] due = {{0, 1, 0, 0}, {19, 99, 0, 9}, {7, 0, 30, 5}, {8, 26, 0, 3}};
        for (int t = 0; t < 4; t++) {
            for (int what = 0; what < 4; what++) {
                Told.is("tree(" + t + ", " + what + ")", x.tree(t, what), due[t][what]);
            }
        }
        for (int i = 0; i < 6; i++) {
            x.clip(2, 99);
        }
        Told.is("what is cut has no end", x.tree(2, 2), 30 + 6 * 99);
    }

    private static void treeBad() {
        Told.at(15, "BAD.");
        Look.refuses(Due.BAD, "tree", (x, n) -> x.tree(n[0], n[1]), new int[] {5, 0}, 0, -1, 6, LOW, HIGH);
        Look.refuses(Due.BAD, "tree", (x, n) -> x.tree(n[0], n[1]), new int[] {0, 3}, 1, -1, 4, LOW, HIGH);
        Look.staysByWithout("there is no tree", x -> x.tree(0, 0), Due.BAD);
        Told.is("fewer trees", Due.bench(FIVE).tree(5, 0), Due.BAD);
    }

    private static void siteIsTold() {
        Told.at(16, "Of a SITE: 0 the ground, 1 BAR, 2 the TREE (NONE).");
        OneBench x = Due.bench("ground 60 1 2 3 4 5 6 7 8 9 10 11 12 13 14 15 16 17 18 0;tree oak 0 99 0;tree yew 19 1 0;tree ash 5 7 0;");
        for (int q = 0; q < 20; q++) {
            int ground = q == 0 ? 60 : q == 19 ? 0 : q;
            int tree = q == 0 ? 0 : q == 19 ? 1 : q == 5 ? 2 : Due.NONE;
            Told.is("ground " + q, x.site(q, 0), ground);
            Told.is("bar " + q, x.site(q, 1), ground + (q == 0 ? 99 : q == 19 ? 1 : q == 5 ? 7 : 0));
            Told.is("tree " + q, x.site(q, 2), tree);
        }
        x.winter(1);
        Told.is("a bare ash bars nothing", x.site(5, 1), 5);
        Told.is("it is there", x.site(5, 2), 2);
    }

    private static void siteBad() {
        Told.at(16, "BAD;");
        Look.refuses(Due.BAD, "site", (x, n) -> x.site(n[0], n[1]), new int[] {19, 0}, 0, -1, 20, LOW, HIGH);
        Look.refuses(Due.BAD, "site", (x, n) -> x.site(n[0], n[1]), new int[] {3, 2}, 1, -1, 3, LOW, HIGH);
    }

    private static void siteState() {
        Told.at(16, "STATE: no GARDEN (ahead of BAD).");
        Look.needsGarden("site", (x, n) -> x.site(n[0], n[1]), new int[] {0, 0}, new int[] {20, 0}, new int[] {0, 3}, new int[] {LOW, HIGH});
    }
}
