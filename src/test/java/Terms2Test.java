/** "Terms", part 2: heights, bars, tops, eyes, lines, what is seen, doubled, met. */
public final class Terms2Test {
    private static final String HILL_0 = "ground 60 0 0 0 0 0 0 0 0 0 0 0 0 0 0 0 0 0 0 0;";

    public static void main(String[] args) throws Exception {
        high();
        grows();
        notOfAHedge();
        atMost99();
        lessWhatIsCut();
        atLeast0();
        ashInWinter();
        notOfAnOak();
        bar();
        top();
        eye();
        free();
        seen();
        notFromItsOwn();
        doubled();
        wants();
        Told.end("Terms2Test", "Terms 2");
    }

    private static OneBench trees(String trees) {
        return Due.bench(Due.FLAT + trees);
    }

    private static void high() {
        Told.term(2, "HEIGHT of a TREE: HIGH,");
        OneBench x = trees("tree ash 1 1 9;tree oak 2 99 9;tree yew 3 50 9;tree hedge 4 1 9;tree false 5 99 9;");
        int[] due = {1, 99, 50, 1, 99};
        for (int t = 0; t < 5; t++) {
            Told.is("height of " + t, x.tree(t, 1), due[t]);
        }
    }

    private static void grows() {
        Told.term(2, "and GROWS times YEAR");
        for (int grows = 0; grows <= 9; grows++) {
            OneBench x = trees("tree ash 1 3 " + grows + ";tree oak 2 3 " + grows + ";tree yew 3 3 " + grows + ";");
            for (int year = 1; year <= 10; year++) {
                x.years(1);
                for (int t = 0; t < 3; t++) {
                    Told.is("of " + t + " in " + year + ", grows " + grows, x.tree(t, 1), 3 + grows * year);
                }
            }
        }
    }

    private static void notOfAHedge() {
        Told.term(2, "(not of a hedge, a false one),");
        OneBench x = trees("tree hedge 1 3 9;tree false 2 4 9;");
        for (int i = 0; i < 10; i++) {
            x.years(99);
        }
        Told.is("a hedge", x.tree(0, 1), 3);
        Told.is("a false one", x.tree(1, 1), 4);
        Told.is("what it is told to grow", x.tree(0, 3), 9);
    }

    private static void atMost99() {
        Told.term(2, "99 at most,");
        OneBench x = trees("tree ash 1 90 1;tree yew 2 98 9;tree oak 3 99 0;");
        x.years(9);
        Told.is("just 99", x.tree(0, 1), 99);
        Told.is("never more", x.tree(1, 1), 99);
        x.years(1);
        Told.is("not 100", x.tree(0, 1), 99);
        for (int i = 0; i < 10; i++) {
            x.years(i < 9 ? 99 : 98);
        }
        Told.is("in year 999", x.tree(1, 1), x.count(3) == 999 ? 99 : -1);
        Told.is("without growing", x.tree(2, 1), 99);
    }

    private static void lessWhatIsCut() {
        Told.term(2, "less what is CUT of it,");
        OneBench x = trees("tree oak 1 95 1;tree hedge 2 40 1;");
        x.clip(0, 10);
        x.clip(1, 39);
        Told.is("cut", x.tree(0, 1), 85);
        Told.is("a hedge", x.tree(1, 1), 1);
        x.years(4);
        Told.is("99 at most, and then less", x.tree(0, 1), 89);
        x.years(90);
        Told.is("it never grows over that", x.tree(0, 1), 89);
        x.clip(0, 5);
        Told.is("cut again", x.tree(0, 1), 84);
    }

    private static void atLeast0() {
        Told.term(2, "0 at least;");
        OneBench x = trees("tree oak 1 10 1;tree hedge 2 99 1;");
        Told.is("all of it", x.clip(0, 10), 0);
        Told.is("more than that", x.clip(0, 99), 0);
        Told.is("just all", x.clip(1, 99), 0);
        Told.is("height", x.tree(0, 1), 0);
        Told.is("bar", x.site(1, 1), 0);
        x.years(99);
        Told.is("at most 99, less 109", x.tree(0, 1), 0);
    }

    private static void ashInWinter() {
        Told.term(2, "of an ash in WINTER 0");
        OneBench x = trees("tree ash 1 99 9;tree yew 2 9 0;tree hedge 3 9 0;tree false 4 9 0;");
        x.winter(1);
        int[] due = {0, 9, 9, 9};
        for (int t = 0; t < 4; t++) {
            Told.is("height of " + t, x.tree(t, 1), due[t]);
        }
        Told.is("bar", x.site(1, 1), 0);
        Told.is("cut in winter", x.clip(0, 5), 0);
        x.winter(0);
        Told.is("behind it", x.tree(0, 1), 94);
    }

    private static void notOfAnOak() {
        Told.term(2, "(not of an oak).");
        OneBench x = trees("tree oak 1 9 1;");
        x.winter(1);
        Told.is("an oak is an ash one, and not bare", x.as(0, 1) + x.tree(0, 1), 9);
        x.years(3);
        Told.is("it grows in winter", x.tree(0, 1), 12);
    }

    private static void bar() {
        Told.term(2, "BAR of a SITE: the ground there, and HEIGHT of the TREE there, if there is one.");
        OneBench x = Due.bench("ground 5 0 60 7 0 0 0 0 0 0 0 0 0 0 0 0 0 0 0 60;tree oak 2 99 0;tree ash 0 3 1;tree yew 19 1 0;"
                + "thing 3 50 show;");
        int[] due = {8, 0, 159, 7};
        for (int q = 0; q < 4; q++) {
            Told.is("site " + q, x.site(q, 1), due[q]);
        }
        Told.is("site 19", x.site(19, 1), 61);
        x.clip(0, 90);
        Told.is("less", x.site(2, 1), 69);
        x.years(2);
        Told.is("grown", x.site(0, 1), 10);
        x.move(0, 1);
        Told.is("moved away", x.site(2, 1), 60);
        Told.is("moved there", x.site(1, 1), 9);
        Told.is("a thing bars nothing", x.site(3, 1), 7);
    }

    private static void top() {
        Told.term(2, "TOP of a THING: the ground at its SITE, and HIGH.");
        // The line from 0 to a top at site 10 is half as high at site 5: over the tree of 20 from 41 on.
        for (int ground = 0; ground <= 60; ground += 10) {
            for (int top = 40; top <= 42; top++) {
                if (top > ground) {
                    OneBench x = Due.bench("ground 0 0 0 0 0 0 0 0 0 0 " + ground + " 0 0 0 0 0 0 0 0 0;"
                            + "tree yew 5 20 0;thing 10 " + (top - ground) + " show;");
                    Told.is("ground " + ground + ", top " + top, x.seen(0, 0), top > 40 ? 1 : 0);
                }
            }
        }
        OneBench x = trees("tree yew 5 20 0;tree oak 10 99 0;thing 10 40 show;");
        Told.is("a tree at its site makes it no higher", x.seen(0, 0), 0);
    }

    private static void eye() {
        Told.term(2, "An EYE e (0 to 30) at a SITE is that much above the ground there.");
        // The line from the eye to the top 1 of site 10 is over the yew of 15 at site 5 from 30 on.
        for (int ground = 0; ground <= 60; ground += 5) {
            OneBench x = Due.bench("ground " + ground + " 0 0 0 0 0 0 0 0 0 0 0 0 0 0 0 0 0 0 0;tree yew 5 15 0;thing 10 1 show;");
            for (int eye = 0; eye <= 30; eye += 5) {
                Told.is("ground " + ground + ", eye " + eye, x.seen(0, eye), ground + eye >= 30 ? 1 : 0);
            }
            Told.is("31", x.seen(0, 31), Due.BAD);
            Told.is("-1", x.seen(0, -1), Due.BAD);
        }
        OneBench y = trees("tree oak 0 99 0;tree yew 5 15 0;thing 10 1 show;");
        Told.is("no tree lifts it", y.seen(0, 29), 0);
        Told.is("but for its own", y.seen(0, 30), 1);
    }

    private static void free() {
        Told.term(2, "A line from a height A at SITE a to a height B at a later SITE c is FREE, if at each SITE q between both "
                + "(B less A) times (q less a), and A times (c less a), together are more than BAR of q times (c less a).");
        for (int a = 0; a <= 12; a += 4) {
            for (int c = a + 2; c <= 19; c += 5) {
                for (int q = a + 1; q < c; q += 2) {
                    touching(a, 7 + a, c, 23, q);
                    touching(a, 52, c, 11, q);
                }
            }
        }
        OneBench next = trees("tree oak 4 99 0;tree oak 5 99 0;thing 5 1 show;");
        Told.is("with no site between both", next.seen(4, 0), 1);
        OneBench each = trees("tree oak 4 9 0;tree oak 8 9 0;thing 12 10 show;");
        Told.is("at each site", each.seen(0, 9), 1);
        OneBench one = trees("tree oak 4 9 0;tree oak 8 10 0;thing 12 10 show;");
        Told.is("one of them is too much", one.seen(0, 9), 0);
    }

    /** A tree at q that reaches the line is too high; one an inch less is not. */
    private static void touching(int a, int from, int c, int to, int q) {
        int eye = Math.min(30, from);
        int[] ground = new int[20];
        ground[a] = from - eye;
        int stop = 1;
        while ((to - from) * (q - a) + from * (c - a) > stop * (c - a)) {
            stop++;
        }
        StringBuilder text = new StringBuilder("ground");
        for (int site = 0; site < 20; site++) {
            text.append(' ').append(ground[site]);
        }
        text.append(";tree oak ").append(q).append(' ').append(stop).append(" 0;");
        text.append("thing ").append(c).append(' ').append(to).append(" show;");
        OneBench x = Due.bench(text.toString());
        String line = "from " + from + " at " + a + " to " + to + " at " + c + ", " + stop + " at " + q;
        Told.is("stopped " + line, x.seen(a, eye), 0);
        x.clip(0, 1);
        Told.is("by one less it is not " + line, x.seen(a, eye), 1);
    }

    private static void seen() {
        Told.term(2, "A THING is SEEN from an EYE at a SITE ahead of its own, if the line from the EYE to its TOP is FREE");
        OneBench x = trees("tree yew 6 9 0;thing 5 5 show;thing 10 5 show;thing 19 9 show;");
        for (int site = 0; site <= 18; site++) {
            int due = (site < 5 ? 1 : 0) | (site >= 6 && site < 10 ? 2 : 0) | (site >= 6 ? 4 : 0);
            Told.is("from " + site, x.seen(site, 5), due);
        }
        Told.is("from 18 by eye 0", x.seen(18, 0), 4);
        OneBench y = trees("thing 5 99 show;thing 6 1 show;");
        Told.is("a thing hides no other", y.seen(0, 0), 3);
    }

    private static void notFromItsOwn() {
        Told.term(2, "(from its own SITE, or a later one, it is not).");
        for (int own = 0; own <= 18; own++) {
            OneBench x = trees("thing " + own + " 99 show;");
            for (int site = 0; site <= 18; site++) {
                Told.is("of " + own + " from " + site, x.seen(site, 30), site < own ? 1 : 0);
            }
        }
    }

    private static void doubled() {
        Told.term(2, "DOUBLED: SEEN from SITE 0, and at some SITE m of the lake, behind SITE 0 and ahead of the THING's, "
                + "the line from the EYE to the ground of m, and the line from that to the TOP, are both FREE.");
        OneBench x = trees("lake 0 19;thing 0 9 show;thing 1 9 show;thing 2 9 show;thing 19 9 show;");
        Told.is("behind site 0, and ahead of the thing's", x.doubled(30), 4 | 8);
        Told.is("an eye on the ground sees no water but the next", x.doubled(0), 4 | 8);
        for (int m = 0; m <= 19; m++) {
            OneBench one = trees("lake " + m + " " + m + ";thing 10 20 show;");
            Told.is("a lake at " + m, one.doubled(20), m > 0 && m < 10 ? 1 : 0);
        }
        // Not seen from site 0: each line of the water's is free, but the hill at site 5 is its own water.
        OneBench hidden = Due.bench("ground 0 0 0 0 0 40 0 0 0 0 0 0 0 0 0 0 0 0 0 0;lake 5 5;thing 10 9 show;");
        Told.is("seen over no hill", hidden.seen(0, 30), 0);
        Told.is("so it is not doubled", hidden.doubled(30), 0);
        OneBench near = Due.bench("ground 0 40 0 0 0 0 0 0 0 0 0 0 0 0 0 0 0 0 0 0;lake 1 1;thing 10 9 show;");
        Told.is("seen from the water", near.seen(1, 30), 1);
        Told.is("not seen from site 0, so it is not doubled", near.doubled(30), 0);
        // From eye 20 to the water at site 8 the line is 10 high at site 4; from there to the top 30 of 12, 15 at 10.
        for (int yew = 9; yew <= 10; yew++) {
            for (int oak = 14; oak <= 15; oak++) {
                OneBench y = trees("lake 8 8;tree yew 4 " + yew + " 0;tree oak 10 " + oak + " 0;thing 12 30 show;");
                Told.is("seen over " + yew + ", " + oak, y.seen(0, 20), 1);
                Told.is("doubled, between " + yew + ", " + oak, y.doubled(20), yew < 10 && oak < 15 ? 1 : 0);
            }
        }
        // Over a yew of 20 at site 6 the top is seen from the water at site 4, not from that at 5, nor from behind.
        String yew = "tree yew 6 20 0;thing 12 99 show;";
        Told.is("one site of it is enough", trees("lake 4 5;" + yew).doubled(20), 1);
        Told.is("the other is not", trees("lake 5 5;" + yew).doubled(20), 0);
        Told.is("the water behind the yew is not seen", trees("lake 7 9;" + yew).doubled(20), 0);
    }

    private static void wants() {
        Told.term(2, "WANTS are met for an EYE at SITE 0, if all THINGS to show are SEEN, none to hide is.");
        String hedge = "tree hedge 5 10 0;";
        String high = "thing 10 21 ";
        String low = "thing 10 20 ";
        Told.is("show, hide", trees(hedge + high + "show;" + low + "hide;").met(1), 1);
        Told.is("show, show", trees(hedge + high + "show;" + low + "show;").met(1), 0);
        Told.is("hide, hide", trees(hedge + high + "hide;" + low + "hide;").met(1), 0);
        Told.is("hide, show", trees(hedge + high + "hide;" + low + "show;").met(1), 0);
        Told.is("no things at all", trees(hedge).met(Integer.MAX_VALUE), Integer.MAX_VALUE);
        Told.is("at site 0, not elsewhere", trees(hedge + low + "show;").met(1), 0);
        Told.is("from elsewhere it is seen", trees(hedge + low + "show;").seen(6, 0), 1);
    }
}
