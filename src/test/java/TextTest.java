/** Promises 1 and 6 to 8: a new object, feed, garden, fault. */
public final class TextTest {
    public static void main(String[] args) {
        fresh();
        feeds();
        gardens();
        faults();
        kept();
        anew();
        Due.end("TextTest");
    }

    private static void fresh() {
        OneBench x = new OneBench();
        for (int what = 0; what <= 6; what++) {
            Due.is("count(" + what + ")", x.count(what), 0);
        }
        Due.is("fault", x.fault(), 0);
        Due.is("status", x.status(), 0);
        Due.is("trace", x.trace(0), Due.NONE);
        Due.is("years", x.years(0), Due.STATE);
        Due.is("winter", x.winter(2), Due.STATE);
        Due.is("level", x.level(9, 0), Due.STATE);
        Due.is("site", x.site(20, 0), Due.STATE);
        Due.is("seen", x.seen(19, 31), Due.STATE);
        Due.is("doubled", x.doubled(31), Due.STATE);
        Due.is("met", x.met(-1), Due.STATE);
        Due.is("plant", x.plant(-1, 9, 9, 9), Due.STATE);
        Due.is("moon", x.moon(31), Due.STATE);
        Due.is("path", x.path(31, 1), Due.STATE);
        Due.is("picture", x.picture(31, 1), Due.STATE);
        Due.is("rival", x.rival(31, 0), Due.STATE);
        Due.is("clip", x.clip(0, 1), Due.BAD);
        Due.is("move", x.move(0, 1), Due.BAD);
        Due.is("cut", x.cut(0, 0, 1, 0), Due.BAD);
        Due.is("image", x.image(2), Due.BAD);
        Due.is("image", x.image(1), Due.STATE);
        Due.is("restore", x.restore(1), Due.STATE);
        Due.is("undo", x.undo(), Due.STATE);
        Due.is("tree", x.tree(0, 0), Due.BAD);
        Due.is("kind", x.kind(0), Due.BAD);
        Due.is("as", x.as(0, 0), Due.BAD);
        Due.is("ask", x.ask(0, 0), Due.BAD);
    }

    private static void feeds() {
        OneBench x = new OneBench();
        Due.is("n 0", x.feed(0, 0), Due.BAD);
        Due.is("n 9", x.feed(0, 9), Due.BAD);
        Due.is("n -1", x.feed(0, -1), Due.BAD);
        for (int i = 1; i <= 49; i++) {
            Due.is("eight more", x.feed(0x2020202020202020L, 8), 8 * i);
        }
        Due.is("seven more", x.feed(0x2020202020202020L, 7), 399);
        Due.is("two are too many", x.feed(0, 2), Due.FULL);
        Due.is("none came", x.count(6), 399);
        Due.is("BAD ahead of FULL", x.feed(0, 9), Due.BAD);
        Due.is("one fits", x.feed(0x20, 1), 400);
        Due.is("one is too many", x.feed(0, 1), Due.FULL);
        Due.is("the end of it", x.garden(), -1000500);
        Due.is("empty then", x.count(6), 0);
        Due.is("lowest bytes, highest first", x.feed(0x7878787867726f75L, 4), 4);
        Due.is("go on", Due.feed(x, Due.FLAT.substring(4)), Due.FLAT.length());
        Due.is("garden", x.garden(), 0);
        Due.is("a high byte", x.feed(-1L, 8), 8);
        Due.is("is none", x.garden(), -1000100);
    }

    private static void gardens() {
        String dense = "ground0 1 2 3 4 5 6 7 8 9 10 11 12 13 14 15 16 17 18 060;lake0 19;tree"
                + " ash0 1 0;tree yew19 99 9;thing0 1show;thing 0 99hide;";
        OneBench x = Due.bench(dense);
        Due.is("trees", x.count(1), 2);
        Due.is("things", x.count(2), 2);
        Due.is("ground 19", x.site(19, 0), 60);
        Due.is("ground 18", x.site(18, 0), 18);
        Due.is("tree at 19", x.site(19, 2), 1);
        String airy = "\n  ground\n" + " 1\n".repeat(20) + " ; \n lake 3\n 3 ; tree false 01 002 0 ;\n\n";
        Due.is("blanks", Due.read(x, airy), 1);
        Due.is("its kind", x.kind(0), 5);
        Due.is("its height", x.tree(0, 1), 2);
        StringBuilder six = new StringBuilder(Due.FLAT);
        for (int i = 1; i <= 6; i++) {
            six.append("tree oak ").append(i).append(" 9 1;");
        }
        for (int i = 1; i <= 6; i++) {
            six.append("thing 9 ").append(i).append(" hide;");
        }
        Due.is("six and six", Due.read(x, six.toString()), 6);
        Due.is("six things", x.count(2), 6);
    }

    private static void fault(String text, int place, int number) {
        OneBench x = Due.bench(Due.FLAT + "tree oak 7 9 1;");
        Due.is("garden of " + text, Due.read(x, text), -1000100 - place);
        Due.is("fault of " + text, x.fault(), number);
        Due.is("the tape is empty", x.count(6), 0);
        Due.is("the old one stays", x.site(7, 1), 9);
        Due.is("read again", Due.read(x, Due.FLAT), 0);
        Due.is("the latest fault", x.fault(), number);
    }

    private static void faultBehind(String ahead, String rest, int number) {
        fault(ahead + rest, ahead.length(), number);
    }

    private static void faults() {
        String f = Due.FLAT;
        faultBehind("", "", 1);
        faultBehind("  \n", "", 1);
        faultBehind("", "grounds 0", 1);
        faultBehind("", "groun", 1);
        faultBehind("", "Ground", 1);
        faultBehind("", "xround", 1);
        faultBehind("", "grounz", 1);
        faultBehind("", "tree", 1);
        faultBehind(" ", "5", 1);
        faultBehind("ground ", "61 x", 2);
        faultBehind("ground 60 ", "999", 2);
        faultBehind("ground 60 ", "0000 ", 1);
        faultBehind("ground 60 ", "12345", 1);
        faultBehind("ground 60 ", "-1", 1);
        faultBehind("ground 60 ", "\t1", 1);
        faultBehind("ground 60 ", "\u00e9", 1);
        faultBehind("ground 60 ", ";", 1);
        fault(f.substring(0, f.length() - 1) + " ", f.length(), 1);
        faultBehind(f.substring(0, f.length() - 1) + " ", "0;", 1);
        faultBehind(f.substring(0, f.length() - 1), "/", 1);
        faultBehind(f.substring(0, f.length() - 1), "\u003a", 1);
        faultBehind(f.substring(0, f.length() - 1) + " ", "1234;", 1);
        faultBehind(f, ";", 1);
        faultBehind(f, "ground", 1);
        faultBehind(f + "lake 0 0;", "lake", 1);
        faultBehind(f + "tree ash 1 1 1;", "lake", 1);
        faultBehind(f + "thing 1 1 show;", "tree", 1);
        faultBehind(f + "thing 1 1 show;", "lake", 1);
        faultBehind(f + "lake ", "20 1;", 2);
        faultBehind(f + "lake 19 ", "18;", 2);
        faultBehind(f + "lake 5 ", "20;", 2);
        faultBehind(f + "lake 5 ", ";", 1);
        faultBehind(f + "lake 5 5", "tree", 1);
        faultBehind(f + "tree ", "elm 1 1 1;", 1);
        faultBehind(f + "tree ", "1 1 1;", 1);
        faultBehind(f + "tree ", "ashz 1 1 1;", 1);
        faultBehind(f + "tree ", "aash 1 1 1;", 1);
        faultBehind(f + "tree ash", "{1 1 1;", 1);
        faultBehind(f + "tree ash", "`1 1 1;", 1);
        faultBehind(f + "tree ash 1 1 ", "/", 1);
        faultBehind(f + "tree ash 1 1 ", ":", 1);
        faultBehind(f + "tree ", "ashes 1 1 1;", 1);
        faultBehind(f + "tree ash ", "20 0 10;", 2);
        faultBehind(f + "tree ash 19 ", "0 1;", 2);
        faultBehind(f + "tree ash 19 ", "100 1;", 2);
        faultBehind(f + "tree ash 19 99 ", "10;", 2);
        faultBehind(f + "tree ash 19 99 9", "x", 1);
        faultBehind(f + "tree ash 19 99 9;tree yew ", "19 0 0;", 2);
        faultBehind(f + "thing ", "20 0 see;", 2);
        faultBehind(f + "thing 19 ", "0 see;", 2);
        faultBehind(f + "thing 19 ", "100 see;", 2);
        faultBehind(f + "thing 19 99 ", "see;", 1);
        faultBehind(f + "thing 19 99 ", "5;", 1);
        faultBehind(f + "thing 19 99 show", "5;", 1);
        faultBehind(f + "thing 19 99 hide", "", 1);
        StringBuilder full = new StringBuilder(f);
        for (int i = 1; i <= 6; i++) {
            full.append("tree oak ").append(i).append(" 9 1;");
        }
        faultBehind(full.toString(), "tree", 3);
        faultBehind(full.toString(), "tree 4", 3);
        faultBehind(full.toString(), "trees", 1);
        full.append("thing 1 1 show;");
        faultBehind(full.toString(), "tree", 1);
        for (int i = 2; i <= 6; i++) {
            full.append("thing 1 1 show;");
        }
        faultBehind(full.toString(), "thing", 3);
        faultBehind(full.toString(), "tree", 1);
    }

    /** Nothing of a garden may come back in one that is read later. */
    private static void anew() {
        OneBench x = new OneBench();
        for (int i = 0; i < 4; i++) {
            String lake = i == 0 ? "lake 1 9;" : "";
            Due.is("tree", Due.read(x, Due.FLAT + lake + "tree oak 12 9 1;thing 10 30 show;"), 1);
            Due.is("doubled", x.doubled(9), i == 0 ? 1 : 0);
            Due.is("year", x.count(3), 0);
            Due.is("winter", x.count(5), 0);
            Due.is("cut", x.tree(0, 2), 0);
            x.years(9);
            x.clip(0, 3);
            x.winter(1);
            Due.read(x, "lake");
        }
    }

    private static void kept() {
        OneBench x = Due.bench(Due.FLAT + "tree oak 7 9 1;");
        x.row(3, 2, 20);
        x.years(5);
        x.clip(0, 2);
        x.image(1);
        x.winter(1);
        Due.is("five days and all", x.count(4), 3);
        Due.is("a fault", Due.read(x, "ground"), -1000106);
        Due.is("the days stay", x.count(4), 3);
        Due.is("the year stays", x.count(3), 5);
        Due.is("another", Due.read(x, Due.FLAT + "tree oak 8 9 1;"), 1);
        Due.is("year 0", x.count(3), 0);
        Due.is("no winter", x.count(5), 0);
        Due.is("nothing is cut", x.tree(0, 2), 0);
        Due.is("no day", x.undo(), Due.STATE);
        Due.is("rows stay", x.count(0), 1);
        Due.is("images stay", x.restore(1), 1);
        Due.is("as it was", x.site(7, 1), 12);
    }
}
