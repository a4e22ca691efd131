/** Promises 20, 21 and 25: cut, plant, rival. */
public final class ForetoldTest {
    public static void main(String[] args) {
        cuts();
        cutsInBothWays();
        cutsRefused();
        plants();
        plantsRefused();
        rivals();
        rivalsOfKinds();
        nothingChanges();
        Due.end("ForetoldTest");
    }

    private static void cutIs(OneBench x, int eyes, int a, int b, int sum, int first) {
        String call = "cut(" + eyes + ", " + a + ", " + b + ")";
        Due.is(call + " sum", x.cut(eyes, a, b, 0), sum);
        Due.is(call + " first", x.cut(eyes, a, b, 1), first);
    }

    private static void cuts() {
        // From eye 0 to the top 20 of site 10 the line is 10 high at site 5, 16 at site 8.
        OneBench x = Due.bench(Due.FLAT + "tree hedge 5 15 0;tree oak 8 30 0;tree yew 2 1 0;thing 10 20 show;");
        cutIs(x, 1, 0, 1, 21, 6);
        cutIs(x, 1, 1, 0, 21, 15);
        Due.is("of no eyes", x.cut(0, 0, 1, 0), 0);
        // From eye 10 it is 15 high at site 5, 18 at site 8: touching is not enough.
        cutIs(x, 1 << 10, 0, 1, 14, 1);
        cutIs(x, 1 | 1 << 10, 0, 1, 21, 6);
        cutIs(x, 1 << 30, 0, 1, 9, 0);
        Due.is("as foretold", x.clip(0, 6) + x.clip(1, 15), 24);
        Due.is("it is met", x.met(1), 1);
        x.undo();
        x.clip(1, 14);
        Due.is("by less it is not", x.met(1), 0);
        OneBench y = Due.bench("ground 0 0 0 0 0 10 0 0 0 0 0 0 0 0 0 0 0 0 0 0;"
                + "tree hedge 5 15 0;tree oak 8 30 0;thing 10 20 show;");
        cutIs(y, 1, 0, 1, Due.NONE, Due.NONE);
        cutIs(y, 2, 0, 1, 15 + 14, 15);
        OneBench z = Due.bench(Due.FLAT + "tree hedge 0 15 0;tree oak 10 30 0;tree ash 15 9 0;thing 10 20 show;");
        cutIs(z, 1, 0, 1, 0, 0);
        cutIs(z, 1, 2, 1, 0, 0);
        // 60 to 20: the line is 56 high at site 1, 24 at site 9.
        OneBench down = Due.bench("ground 60 0 0 0 0 0 0 0 0 0 0 0 0 0 0 0 0 0 0 0;"
                + "tree oak 1 70 0;tree oak 9 30 0;thing 10 20 show;");
        cutIs(down, 1, 0, 1, 15 + 7, 15);
        // 20 of 3, one third and two thirds: 6 and 13, and more.
        OneBench thirds = Due.bench(Due.FLAT + "tree oak 1 9 0;tree oak 2 19 0;thing 3 20 show;");
        cutIs(thirds, 1, 0, 1, 3 + 6, 3);
        OneBench w = Due.bench(Due.FLAT + "tree ash 5 50 0;tree oak 6 50 0;thing 10 20 show;");
        w.winter(1);
        cutIs(w, 1, 0, 1, 39, 0);
        cutIs(w, 1, 1, 0, 39, 39);
        w.winter(0);
        cutIs(w, 1, 0, 1, 41 + 39, 41);
        w.clip(0, 45);
        cutIs(w, 1, 0, 1, 39, 0);
    }

    private static void cutsInBothWays() {
        // 10 high at site 5 for the thing to show; 3 high there for the one to hide.
        OneBench x = Due.bench(Due.FLAT + "tree hedge 5 15 0;tree oak 8 9 0;thing 10 20 show;thing 10 6 hide;");
        cutIs(x, 1, 0, 1, 6, 6);
        cutIs(x, 1, 1, 0, 6, 0);
        // For eye 30 the thing to hide comes in sight by what shows the other to eye 0.
        cutIs(x, 1 | 1 << 30, 0, 1, Due.NONE, Due.NONE);
        OneBench hid = Due.bench(Due.FLAT + "tree hedge 5 1 0;tree oak 8 1 0;thing 10 20 hide;");
        cutIs(hid, 1, 0, 1, Due.NONE, Due.NONE);
        OneBench never = Due.bench(Due.FLAT + "tree hedge 5 1 0;tree oak 8 1 0;thing 0 20 show;");
        cutIs(never, 1, 0, 1, Due.NONE, Due.NONE);
        OneBench third = Due.bench(Due.FLAT + "tree hedge 5 15 0;tree oak 8 9 0;tree oak 9 99 0;thing 10 20 show;");
        cutIs(third, 1, 0, 1, Due.NONE, Due.NONE);
        cutIs(third, 1, 0, 2, 6 + 82, 6);
    }

    private static void cutsRefused() {
        OneBench x = Due.bench(Due.FLAT + "tree ash 1 1 0;tree oak 2 1 0;tree yew 3 1 0;tree hedge 4 1 0;tree false 5 1 0;");
        Due.is("two", x.cut(Integer.MAX_VALUE, 0, 1, 0), 0);
        Due.is("hedge", x.cut(1, 3, 1, 1), 0);
        Due.is("alike", x.cut(1, 1, 1, 0), Due.BAD);
        Due.is("yew", x.cut(1, 2, 1, 0), Due.BAD);
        Due.is("yew", x.cut(1, 1, 2, 0), Due.BAD);
        Due.is("false", x.cut(1, 4, 1, 0), Due.BAD);
        Due.is("false", x.cut(1, 1, 4, 0), Due.BAD);
        Due.is("5", x.cut(1, 5, 1, 0), Due.BAD);
        Due.is("-1", x.cut(1, 1, -1, 0), Due.BAD);
        Due.is("eyes", x.cut(-1, 0, 1, 0), Due.BAD);
        Due.is("eyes", x.cut(Integer.MIN_VALUE, 0, 1, 0), Due.BAD);
        Due.is("what", x.cut(1, 0, 1, 2), Due.BAD);
        Due.is("what", x.cut(1, 0, 1, -1), Due.BAD);
    }

    private static void plants() {
        // The line from eye 0 to the top 10 of site 10 is as high as the site's number.
        OneBench x = Due.bench(Due.FLAT + "thing 10 10 hide;");
        Due.is("five hides up to site 5", x.plant(1, 3, 9, 0), 1);
        Due.is("for an eye of 5", x.plant(1 << 5, 3, 9, 0), Due.NONE);
        Due.is("grown", x.plant(1 << 5, 0, 1, 2), 1);
        OneBench y = Due.bench(Due.FLAT + "tree yew 1 1 0;tree oak 3 1 0;thing 2 99 show;thing 10 10 hide;");
        Due.is("the first without a tree", y.plant(1, 1, 0, 0), 2);
        OneBench z = Due.bench(Due.FLAT + "thing 10 10 hide;thing 3 3 show;");
        Due.is("not where it bars what is to show", z.plant(1, 2, 0, 0), 3);
        Due.is("no hedge grows", z.plant(1 << 4, 3, 9, 50), Due.NONE);
        Due.is("no false one grows", z.plant(1 << 4, 4, 9, 50), Due.NONE);
        Due.is("an oak does", z.plant(1 << 4, 2, 9, 50), 3);
        Due.is("a yew does", z.plant(1 << 4, 1, 1, 99), 3);
        Due.is("at least so", z.plant(1 << 4, 0, 1, 0), Due.NONE);
        Due.is("of no eyes", z.plant(0, 0, 0, 0), 1);
        // From eye 30 to the top 159 of site 19 the line is 93 high at site 1, 100 at site 3.
        String high = "ground 60 0 0 0 0 0 0 0 0 0 0 0 0 0 0 0 0 0 0 60;";
        String hide = "thing 19 99 hide;";
        Due.is("up to 99", Due.bench(high + hide).plant(1 << 30, 0, 9, 99), 1);
        String yews = "tree yew 1 1 0;tree yew 2 1 0;";
        Due.is("99 at most", Due.bench(high + yews + hide).plant(1 << 30, 0, 9, 99), Due.NONE);
        Due.is("barred from each site, 19 is none", Due.bench(Due.FLAT + "thing 19 1 show;").plant(1, 3, 0, 0), Due.NONE);
        growOn();
    }

    private static void growOn() {
        // At site 9 the line from eye 0 is 18 high, so the ash alone can hide the thing.
        OneBench y = Due.bench(Due.FLAT + "tree ash 9 8 1;thing 10 20 hide;");
        Due.is("for eye 10, five hides nowhere", y.plant(1 << 10, 3, 0, 0), Due.NONE);
        Due.is("ten years on the ash is 18", y.plant(1 << 10, 3, 0, 10), Due.NONE);
        Due.is("eleven years on it is 19", y.plant(1 << 10, 3, 0, 11), 1);
        y.years(7);
        Due.is("of which seven have gone by", y.plant(1 << 10, 3, 0, 4), 1);
        Due.is("and three are too few", y.plant(1 << 10, 3, 0, 3), Due.NONE);
        y.winter(1);
        Due.is("without winter", y.plant(1 << 10, 3, 0, 4), 1);
        for (int i = 0; i < 10; i++) {
            y.years(99);
        }
        y.clip(0, 81);
        Due.is("beyond year 999", y.plant(1 << 10, 3, 0, 99), Due.NONE);
        y.undo();
        y.clip(0, 80);
        Due.is("beyond year 999", y.plant(1 << 10, 3, 0, 99), 1);
    }

    private static void plantsRefused() {
        StringBuilder text = new StringBuilder(Due.FLAT);
        for (int i = 1; i <= 5; i++) {
            text.append("tree oak ").append(i).append(" 1 0;");
        }
        OneBench five = Due.bench(text.toString());
        Due.is("a sixth", five.plant(1, 4, 9, 99), 6);
        text.append("tree oak 6 1 0;");
        OneBench six = Due.bench(text.toString());
        Due.is("six trees", six.plant(1, 4, 9, 99), Due.NONE);
        Due.is("BAD ahead of NONE", six.plant(1, 5, 9, 99), Due.BAD);
        Due.is("eyes", five.plant(-1, 0, 0, 0), Due.BAD);
        Due.is("sort -1", five.plant(1, -1, 0, 0), Due.BAD);
        Due.is("sort 5", five.plant(1, 5, 0, 0), Due.BAD);
        Due.is("grows -1", five.plant(1, 0, -1, 0), Due.BAD);
        Due.is("grows 10", five.plant(1, 0, 10, 0), Due.BAD);
        Due.is("y -1", five.plant(1, 0, 0, -1), Due.BAD);
        Due.is("y 100", five.plant(1, 0, 0, 100), Due.BAD);
    }

    private static void rivals() {
        // From eye 0 the line to the tower's top, 10 t at site 18, is 5 t high at site 9.
        OneBench x = Due.bench(Due.FLAT + "tree hedge 9 4 0;");
        for (int t = 1; t <= 9; t++) {
            Due.is("one hedge, turn " + t, x.rival(0, t), 5 * t - 4);
        }
        Due.is("nothing was done", x.tree(0, 1), 4);
        // 10 t thirds are to be reached at site 6.
        OneBench third = Due.bench(Due.FLAT + "tree oak 6 1 9;");
        Due.is("cut upwards", third.rival(0, 1), 3);
        Due.is("cut upwards", third.rival(0, 2), 6);
        Due.is("just so", third.rival(0, 3), 9);
        OneBench first = Due.bench(Due.FLAT + "tree oak 1 1 0;");
        Due.is("at site 1: 90 eighteenths", first.rival(0, 9), 4);
        OneBench odd = Due.bench(Due.FLAT + "tree oak 7 1 0;");
        Due.is("70 eighteenths: 4", odd.rival(0, 1), 3);
        Due.is("1 eighteenth above 0 is 1", Due.bench("ground 0 0 0 0 0 0 0 0 0 0 0 0 0 0 0 0 0 0 1 0;"
                + "tree oak 5 1 0;").rival(0, 1), 3);
        OneBench mound = Due.bench("ground 60 0 0 0 0 0 0 0 0 60 0 0 0 0 0 0 0 0 60 0;tree oak 9 1 0;");
        Due.is("99 on a mound", mound.rival(0, 9), 44);
        OneBench two = Due.bench(Due.FLAT + "tree oak 9 1 0;tree oak 12 3 0;");
        // 5 or 7 in turn 1: each lacks 4, so the first; in turn 2, 9 lacks 5, 12 lacks 11.
        Due.is("of several the first", two.rival(0, 1), 4);
        Due.is("it stays so", two.rival(0, 2), 9);
        OneBench other = Due.bench(Due.FLAT + "tree oak 12 3 0;tree oak 9 1 0;");
        // Now the one at 12 is 7; in turn 2 it lacks 7, that at 9 lacks 9.
        Due.is("of several the first", other.rival(0, 1), 4);
        Due.is("it stays so", other.rival(0, 2), 11);
        OneBench none = Due.bench(Due.FLAT);
        Due.is("no tree", none.rival(0, 1), Due.NONE);
        OneBench hill = Due.bench("ground 0 50 0 0 0 0 0 0 0 0 0 0 0 0 0 0 0 0 0 0;");
        Due.is("not seen", hill.rival(0, 9), 0);
        OneBench late = Due.bench(Due.FLAT + "tree yew 9 22 0;tree oak 17 1 0;");
        Due.is("hidden by a yew so far", late.rival(0, 4), 0);
        Due.is("turn 5: 500 eighteenths at 17, 48 high", late.rival(0, 5), 47);
        OneBench lifted = Due.bench("ground 0 0 0 0 0 0 0 0 0 0 0 0 0 0 0 0 0 0 60 0;tree oak 9 1 0;");
        Due.is("the tower stands on the ground", lifted.rival(0, 1), 34);
        OneBench eye = Due.bench("ground 60 0 0 0 0 0 0 0 0 0 0 0 0 0 0 0 0 0 60 0;tree oak 9 99 0;tree oak 17 99 0;");
        Due.is("99 is too low at both", eye.rival(30, 5), Due.NONE);
        Due.is("NONE it stays", eye.rival(30, 7), Due.NONE);
        Due.is("hidden by 99 so far", eye.rival(30, 4), 0);
        OneBench most = Due.bench("ground 60 0 0 0 0 0 0 0 0 0 0 0 0 0 0 0 0 0 60 0;tree oak 9 98 0;");
        Due.is("98 is the half of 80 and 110, and more", most.rival(20, 5), 0);
        Due.is("up to 99 is well", most.rival(18, 6), 1);
        Due.is("100 is too high", most.rival(20, 6), Due.NONE);
        Due.is("turn 0", none.rival(0, 0), Due.BAD);
        Due.is("turn 10", none.rival(0, 10), Due.BAD);
        Due.is("eye -1", none.rival(-1, 1), Due.BAD);
        Due.is("eye 31", none.rival(31, 1), Due.BAD);
    }

    private static void rivalsOfKinds() {
        String[] kinds = {"ash", "oak", "yew", "hedge", "false"};
        int[] summer = {4, 4, Due.NONE, 4, Due.NONE};
        int[] winter = {Due.NONE, 4, Due.NONE, 4, Due.NONE};
        for (int k = 0; k < kinds.length; k++) {
            OneBench x = Due.bench(Due.FLAT + "tree " + kinds[k] + " 9 1 0;");
            Due.is(kinds[k], x.rival(0, 1), summer[k]);
            x.winter(1);
            Due.is(kinds[k] + " in winter", x.rival(0, 1), winter[k]);
        }
        for (int site : new int[] {0, 18, 19}) {
            OneBench x = Due.bench(Due.FLAT + "tree oak " + site + " 90 0;");
            Due.is("a tree at " + site, x.rival(0, 1), Due.NONE);
        }
        OneBench cut = Due.bench(Due.FLAT + "tree oak 9 99 0;");
        cut.clip(0, 97);
        Due.is("what is cut may be more again", cut.rival(0, 2), 8);
        OneBench wants = Due.bench(Due.FLAT + "tree oak 9 1 0;thing 18 99 show;thing 10 9 hide;");
        Due.is("other things aside", wants.rival(0, 1), 4);
    }

    private static void nothingChanges() {
        OneBench x = Due.bench(Due.FLAT + "tree oak 9 1 1;tree ash 8 9 1;thing 18 99 show;");
        x.years(1);
        int moon = x.moon(0);
        int site = x.site(9, 1);
        x.cut(Integer.MAX_VALUE, 0, 1, 0);
        x.plant(1, 0, 9, 9);
        x.rival(0, 9);
        Due.is("moon", x.moon(0), moon);
        Due.is("trees", x.count(1), 2);
        Due.is("days", x.count(4), 1);
        Due.is("year", x.count(3), 1);
        Due.is("height", x.tree(0, 1), 2);
        Due.is("bar", x.site(9, 1), site);
        Due.is("cut", x.tree(0, 2), 0);
    }
}
