/** Promises 17 to 19 and 22 to 24: seen, doubled, met, moon, path, picture. */
public final class SightTest {
    public static void main(String[] args) {
        seen();
        doubled();
        met();
        moon();
        places();
        refused();
        Due.end("SightTest");
    }

    private static void seen() {
        // From eye 0 at site 0 the line to the top 20 of site 10 is 10 high at site 5.
        OneBench x = Due.bench(Due.FLAT + "tree hedge 5 10 0;thing 10 20 show;thing 10 21 show;thing 5 1 hide;");
        Due.is("a line that only touches is not free", x.seen(0, 0), 6);
        Due.is("a higher eye", x.seen(0, 1), 7);
        Due.is("from the hedge", x.seen(5, 0), 3);
        Due.is("its own site", x.seen(10, 30), 0);
        Due.is("a later one", x.seen(18, 30), 0);
        Due.is("next to it", x.seen(4, 0), 4);
        Due.is("from behind the hedge", x.seen(6, 0), 3);
        OneBench y = Due.bench("ground 59 0 0 0 30 0 0 0 0 0 0 0 0 0 0 0 0 0 0 0;thing 8 1 show;thing 16 1 show;thing 19 99 show;");
        Due.is("over a hill, downwards", y.seen(0, 0), 6);
        Due.is("30 and a half", y.seen(0, 1), 7);
        Due.is("an eye stands on the ground", y.seen(4, 0), 7);
        // From 4 at site 4 to 28 at site 16 the line is 12 high at site 8, 20 at site 12.
        String from4 = "ground 9 9 9 9 4 0 0 0 0 0 0 0 0 0 0 0 8 0 0 0;";
        OneBench s = Due.bench(from4 + "tree oak 8 11 0;tree oak 12 19 0;thing 16 20 show;");
        Due.is("one above both", s.seen(4, 0), 1);
        OneBench s8 = Due.bench(from4 + "tree oak 8 12 0;tree oak 12 19 0;thing 16 20 show;");
        Due.is("touching at 8", s8.seen(4, 0), 0);
        Due.is("over it from eye 1", s8.seen(4, 1), 1);
        OneBench s12 = Due.bench(from4 + "tree oak 8 11 0;tree oak 12 20 0;thing 16 20 show;");
        Due.is("touching at 12", s12.seen(4, 0), 0);
        Due.is("over it from eye 1", s12.seen(4, 1), 1);
        OneBench z = Due.bench(Due.FLAT + "tree ash 5 50 0;tree oak 6 9 0;thing 10 20 show;");
        Due.is("behind an ash", z.seen(0, 0), 0);
        z.winter(1);
        Due.is("bare", z.seen(0, 0), 1);
        OneBench f = Due.bench(Due.FLAT + "thing 1 1 show;thing 2 1 show;");
        Due.is("no line is free at 0 of 0 ground", f.seen(0, 0), 3);
        OneBench g = Due.bench("ground 0 0 0 0 0 0 0 0 0 0 0 0 0 0 0 0 0 0 0 0;tree ash 0 99 9;tree oak 9 99 9;thing 9 1 show;");
        Due.is("trees at both ends bar nothing", g.seen(0, 0), 1);
    }

    private static void doubled() {
        String lake = "ground 10 10 2 2 2 2 2 2 9 9 9 9 9 9 9 9 9 9 9 9;lake 2 7;";
        OneBench x = Due.bench(lake + "thing 8 9 show;thing 19 99 show;thing 5 9 show;thing 2 20 hide;");
        Due.is("low", x.doubled(0), 0);
        Due.is("at site 1 it only touches", x.doubled(1), 0);
        Due.is("higher", x.doubled(2), 3);
        Due.is("higher yet", x.doubled(12), 7);
        Due.is("high", x.doubled(30), 7);
        OneBench none = Due.bench(Due.FLAT + "thing 9 50 show;");
        Due.is("no lake", none.doubled(30), 0);
        OneBench all = Due.bench(Due.FLAT + "lake 0 19;thing 1 50 show;thing 2 50 show;thing 0 1 show;thing 19 50 show;");
        Due.is("a lake from end to end", all.doubled(30), 10);
        OneBench one = Due.bench(Due.FLAT + "lake 9 9;tree false 9 99 0;thing 9 50 show;thing 10 50 show;");
        Due.is("ahead of the thing's site, and behind what bars", one.doubled(30), 0);
        OneBench bare = Due.bench(Due.FLAT + "lake 9 9;thing 9 50 show;thing 10 50 show;");
        Due.is("only the later one", bare.doubled(30), 2);
        OneBench at0 = Due.bench(Due.FLAT + "lake 0 0;thing 10 50 show;");
        Due.is("not at site 0", at0.doubled(30), 0);
        // Seen over the first hedge and by way of the water between the two hedges only.
        OneBench hedged = Due.bench(Due.FLAT + "lake 5 12;tree hedge 4 8 0;tree hedge 11 8 0;thing 18 60 show;");
        Due.is("between hedges", hedged.doubled(30), 1);
        Due.is("too low for it", hedged.doubled(8), 0);
        Due.is("seen, though", hedged.seen(0, 8), 1);
        OneBench up = Due.bench("ground 9 0 0 0 0 0 0 0 0 0 0 0 0 0 0 0 0 0 0 0;lake 2 2;tree oak 1 5 0;thing 3 5 show;");
        Due.is("from 10 on the ground of site 0 it touches 5 at site 1", up.doubled(1), 0);
        Due.is("from 11 it is free", up.doubled(2), 1);
        OneBench wall = Due.bench(Due.FLAT + "lake 2 3;tree oak 1 2 0;thing 5 1 show;");
        Due.is("seen it is to be from site 0", wall.doubled(2), 0);
        OneBench unseen = Due.bench(Due.FLAT + "lake 9 9;tree hedge 9 99 0;thing 10 10 show;");
        Due.is("not seen, not doubled", unseen.doubled(30), 0);
    }

    private static void met() {
        OneBench x = Due.bench(Due.FLAT + "tree hedge 5 10 0;thing 10 20 hide;thing 10 21 show;");
        Due.is("for eye 0 alone", x.met(Integer.MAX_VALUE), 1);
        Due.is("of those told", x.met(6), 0);
        Due.is("of none", x.met(0), 0);
        Due.is("below 0", x.met(-1), Due.BAD);
        Due.is("lowest", x.met(Integer.MIN_VALUE), Due.BAD);
        OneBench y = Due.bench(Due.FLAT + "tree hedge 5 20 0;thing 10 10 show;");
        Due.is("eye 30 alone is level with it", y.met(Integer.MAX_VALUE), 0);
        y.clip(0, 1);
        Due.is("cut by one", y.met(Integer.MAX_VALUE), 3 << 29);
        OneBench own = Due.bench(Due.FLAT + "thing 0 9 show;");
        Due.is("at site 0 nothing is seen", own.met(5), 0);
        OneBench hid = Due.bench(Due.FLAT + "thing 0 9 hide;");
        Due.is("it is hidden there", hid.met(5), 5);
    }

    private static void moon() {
        // The line from eye 0 to the moon, 20 and 3 n high at site 19, is over 19 at site 10 from n = 6 on.
        OneBench x = Due.bench(Due.FLAT + "tree oak 10 19 0;tree ash 19 99 0;");
        int nights = 0;
        for (int n = 0; n <= 12; n++) {
            nights |= (20 + 3 * n) * 10 > 19 * 19 ? 1 << n : 0;
        }
        Due.is("nights", x.moon(0), nights);
        Due.is("nights", nights, 0b1111111000000);
        Due.is("all", x.moon(30), 8191);
        OneBench onHill = Due.bench("ground 19 0 0 0 0 0 0 0 0 0 0 0 0 0 0 0 0 0 0 0;tree oak 10 22 0;");
        // 9 nineteenths of 19, and 10 of 20 and 3 n, are to be more than 22: from n = 2 on.
        Due.is("the eye stands on the ground", onHill.moon(0), 8191 & ~3);
        OneBench y = Due.bench("ground 0 0 0 0 0 0 0 0 0 0 0 0 0 0 0 0 0 0 0 60;tree ash 10 99 0;");
        Due.is("none", y.moon(0), 0);
        y.winter(1);
        Due.is("a bare ash", y.moon(0), 8191);
        // 60 + 20 + 3 n, 10 of 19 on, is to be over 50: n = 6 is the first.
        OneBench hill = Due.bench("ground 0 0 0 0 0 0 0 0 0 0 50 0 0 0 0 0 0 0 0 60;");
        Due.is("the moon stands on the ground", hill.moon(0), 0b1111111000000);
    }

    private static void places() {
        OneBench x = Due.bench(Due.FLAT + "tree hedge 5 10 0;thing 10 20 show;thing 3 9 show;thing 10 4 hide;");
        Due.is("none of none: all", x.path(0, 0), (1 << 19) - 1);
        int[] seen = new int[19];
        for (int s = 0; s < 19; s++) {
            seen[s] = x.seen(s, 2);
        }
        for (int things = 0; things < 8; things++) {
            int path = 0;
            int picture = 0;
            for (int s = 0; s < 19; s++) {
                path |= (seen[s] & things) == 0 ? 1 << s : 0;
                picture |= seen[s] == things ? 1 << s : 0;
            }
            Due.is("path of " + things, x.path(2, things), path);
            Due.is("picture of " + things, x.picture(2, things), picture);
        }
        Due.is("just those, from near", x.picture(2, 5), 0b1111100000);
        Due.is("from behind all", x.picture(2, 0) >> 10, (1 << 9) - 1);
    }

    private static void refused() {
        OneBench x = Due.bench(Due.FLAT + "thing 10 20 show;thing 10 21 show;");
        Due.is("seen(19, 0)", x.seen(19, 0), Due.BAD);
        Due.is("seen(-1, 0)", x.seen(-1, 0), Due.BAD);
        Due.is("seen(18, 0)", x.seen(18, 0), 0);
        for (int eye : new int[] {-1, 31, Integer.MIN_VALUE, Integer.MAX_VALUE}) {
            Due.is("seen", x.seen(0, eye), Due.BAD);
            Due.is("doubled", x.doubled(eye), Due.BAD);
            Due.is("moon", x.moon(eye), Due.BAD);
            Due.is("path", x.path(eye, 1), Due.BAD);
            Due.is("picture", x.picture(eye, 1), Due.BAD);
        }
        for (int things : new int[] {4, 5, 64, -1, Integer.MIN_VALUE, Integer.MAX_VALUE}) {
            Due.is("path", x.path(0, things), Due.BAD);
            Due.is("picture", x.picture(0, things), Due.BAD);
        }
        Due.is("path(30, 3)", x.path(30, 3), ((1 << 19) - 1) & ~1023);
        Due.is("picture(30, 3)", x.picture(30, 3), 1023);
    }
}
