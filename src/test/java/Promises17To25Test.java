/** Promises 17 to 25, sentence by sentence: what is seen, and what is foretold. */
public final class Promises17To25Test {
    private static final int LOW = Integer.MIN_VALUE, HIGH = Integer.MAX_VALUE;

    public static void main(String[] args) throws Exception {
        seen();
        seenBad();
        seenState();
        doubled();
        doubledBad();
        doubledState();
        met();
        metBad();
        metState();
        cut();
        cutBad();
        plant();
        plantNone();
        plantBad();
        plantState();
        moon();
        moonBad();
        moonState();
        path();
        pathBad();
        pathState();
        picture();
        pictureBad();
        pictureState();
        rival();
        rivalNone();
        rivalBad();
        rivalState();
        Told.end("Promises17To25Test", "Promise 17", "Promise 18", "Promise 19", "Promise 20", "Promise 21",
                "Promise 22", "Promise 23", "Promise 24", "Promise 25");
    }

    private static OneBench garden(String behindGround) {
        return Due.bench(Due.FLAT + behindGround);
    }

    private static void seen() {
        Told.at(17, "THINGS (bits) that are SEEN from an EYE at a SITE (0 to 18).");
        // A hedge of 10 at site 5: from eye e to the top h of site 10 the half of both is to be more.
        OneBench x = garden("tree hedge 5 10 0;thing 10 1 show;thing 10 10 hide;thing 10 15 show;thing 10 20 hide;"
                + "thing 10 21 show;thing 19 99 show;");
        Told.is("eye 0", x.seen(0, 0), 16 | 32);
        Told.is("eye 1", x.seen(0, 1), 8 | 16 | 32);
        Told.is("eye 5", x.seen(0, 5), 8 | 16 | 32);
        Told.is("eye 6", x.seen(0, 6), 4 | 8 | 16 | 32);
        Told.is("eye 19", x.seen(0, 19), 63 - 1);
        Told.is("eye 20", x.seen(0, 20), 63);
        Told.is("eye 30", x.seen(0, 30), 63);
        Told.is("site 9", x.seen(9, 0), 63);
        Told.is("site 10", x.seen(10, 0), 32);
        Told.is("site 18", x.seen(18, 30), 32);
        Told.is("no thing", garden("").seen(0, 30), 0);
    }

    private static void seenBad() {
        Told.at(17, "BAD;");
        Look.Call seen = (x, n) -> x.seen(n[0], n[1]);
        Look.refuses(Due.BAD, "seen", seen, new int[] {18, 0}, 0, -1, 19, 20, LOW, HIGH);
        Look.refuses(Due.BAD, "seen", seen, new int[] {0, 30}, 1, -1, 31, LOW, HIGH);
    }

    private static void seenState() {
        Told.at(17, "STATE: no GARDEN (ahead of BAD).");
        Look.needsGarden("seen", (x, n) -> x.seen(n[0], n[1]), new int[] {0, 0}, new int[] {19, 0}, new int[] {0, 31});
    }

    private static void doubled() {
        Told.at(18, "THINGS (bits) that are DOUBLED.");
        for (int hedge = 4; hedge <= 7; hedge++) {
            OneBench x = garden("lake 3 5;tree hedge 9 " + hedge + " 0;thing 2 9 show;thing 3 9 show;thing 4 9 show;"
                    + "thing 8 1 hide;thing 12 9 show;thing 19 70 hide;");
            int due = 4 | 8 | 16 * lineOver(9, 12, hedge) | 32;
            Told.is("by eye 0, that only touches the ground", x.doubled(0), 0);
            Told.is("by eye 9, over a hedge of " + hedge, x.doubled(9), due);
            Told.is("by eye 30, over a hedge of " + hedge, x.doubled(30), due);
            Told.is("all is seen", x.seen(0, 30), 63);
        }
        Told.is("without a lake", garden("thing 8 30 show;").doubled(30), 0);
        Told.is("without a thing", garden("lake 0 19;").doubled(30), 0);
        OneBench shore = Due.bench("ground 0 5 0 0 0 0 0 0 0 0 0 0 0 0 0 0 0 0 0 0;lake 2 2;thing 3 40 show;");
        Told.is("a shore of 5 hides the water from eye 10", shore.doubled(10), 0);
        Told.is("not from eye 11", shore.doubled(11), 1);
        Told.is("seen it is by both", shore.seen(0, 10), 1);
    }

    /** Is the line from the ground of a site 3 to 5 to a top at c higher than a bar at site 9? */
    private static int lineOver(int top, int c, int bar) {
        for (int m = 3; m <= 5; m++) {
            if (top * (9 - m) > bar * (c - m)) {
                return 1;
            }
        }
        return 0;
    }

    private static void doubledBad() {
        Told.at(18, "BAD;");
        Look.refuses(Due.BAD, "doubled", (x, n) -> x.doubled(n[0]), new int[] {30}, 0, -1, 31, LOW, HIGH);
    }

    private static void doubledState() {
        Told.at(18, "STATE: no GARDEN (ahead of BAD).");
        Look.needsGarden("doubled", (x, n) -> x.doubled(n[0]), new int[] {0}, new int[] {31}, new int[] {-1});
    }

    private static void met() {
        Told.at(19, "For which of EYES (bits) WANTS are met.");
        // The one to hide is seen from eye 16 on, the one to show from eye 9 on.
        OneBench x = garden("tree hedge 5 10 0;thing 10 12 show;thing 10 5 hide;");
        int due = 0;
        for (int eye = 9; eye <= 15; eye++) {
            due |= 1 << eye;
        }
        Told.is("of all", x.met(HIGH), due);
        for (int eye = 0; eye <= 30; eye++) {
            Told.is("of " + eye + " alone", x.met(1 << eye), due & 1 << eye);
            Told.is("of all but " + eye, x.met(HIGH & ~(1 << eye)), due & ~(1 << eye));
        }
        Told.is("of none", x.met(0), 0);
        Told.is("without things for all", garden("").met(HIGH), HIGH);
    }

    private static void metBad() {
        Told.at(19, "BAD: below 0;");
        Look.refuses(Due.BAD, "met", (x, n) -> x.met(n[0]), new int[] {0}, 0, -1, -2, LOW);
        Look.refuses(Due.BAD, "met", (x, n) -> x.met(n[0]), new int[] {HIGH}, 0, -1, LOW);
    }

    private static void metState() {
        Told.at(19, "STATE: no GARDEN (ahead of BAD).");
        Look.needsGarden("met", (x, n) -> x.met(n[0]), new int[] {0}, new int[] {-1}, new int[] {LOW});
    }

    private static void cut() {
        Told.at(20, "CUT of TREES a, b: x and y together (what = 0), x (1); NONE.");
        OneBench x = garden("tree hedge 5 15 0;tree oak 8 30 0;thing 10 20 show;");
        Told.is("x and y", x.cut(1, 0, 1, 0), 6 + 15);
        Told.is("x", x.cut(1, 0, 1, 1), 6);
        Told.is("x and y, the other way", x.cut(1, 1, 0, 0), 6 + 15);
        Told.is("x, the other way", x.cut(1, 1, 0, 1), 15);
        Told.is("for eye 30 less", x.cut(1 << 30, 0, 1, 0), 0 + 9);
        Told.is("for both as much as for one", x.cut(1 | 1 << 30, 0, 1, 0), 21);
        Told.is("for none nothing", x.cut(0, 0, 1, 0), 0);
        x.clip(0, 6);
        Told.is("some is cut", x.cut(1, 0, 1, 0), 15);
        Told.is("some is cut", x.cut(1, 0, 1, 1), 0);
        x.clip(1, 15);
        Told.is("all is cut", x.cut(1, 0, 1, 0), 0);
        x.undo();
        x.undo();
        OneBench no = garden("tree hedge 5 1 0;tree oak 8 1 0;thing 10 20 hide;");
        Told.is("NONE", no.cut(1, 0, 1, 0), Due.NONE);
        Told.is("NONE", no.cut(1, 0, 1, 1), Due.NONE);
        Told.is("no eye is to be met", no.cut(0, 0, 1, 1), 0);
    }

    private static void cutBad() {
        Told.at(20, "BAD: alike, one that may not be CUT, too.");
        Look.Call cut = (x, n) -> x.cut(n[0], n[1], n[2], n[3]);
        Look.refuses(Due.BAD, "cut", cut, new int[] {HIGH, 0, 1, 0}, 0, -1, LOW);
        Look.refuses(Due.BAD, "cut", cut, new int[] {1, 0, 1, 0}, 1, -1, 1, 2, 4, 6, LOW, HIGH);
        Look.refuses(Due.BAD, "cut", cut, new int[] {1, 0, 5, 1}, 2, -1, 0, 2, 4, 6, LOW, HIGH);
        Look.refuses(Due.BAD, "cut", cut, new int[] {1, 3, 5, 1}, 3, -1, 2, LOW, HIGH);
        Look.staysBy("both yews", x -> x.cut(1, 2, 2, 0), Due.BAD);
        Look.staysByWithout("there are no trees", x -> x.cut(1, 0, 1, 0), Due.BAD);
    }

    private static void plant() {
        Told.at(21, "PLANT (SORT 0 ash, 1 yew, 2 oak, 3 hedge, 4 false; GROWS 0 to 9; y 0 to 99);");
        // The line from eye 0 to the top 2 h of site 2 is h high at site 1.
        for (int sort = 0; sort <= 4; sort++) {
            for (int grows = 0; grows <= 9; grows += 3) {
                for (int y = 0; y <= 9; y += 3) {
                    int then = 5 + (sort <= 2 ? grows * y : 0);
                    for (int high = then; high <= then + 1 && high <= 49; high++) {
                        OneBench x = garden("thing 2 " + 2 * high + " hide;");
                        Told.is("sort " + sort + ", " + grows + ", " + y + " against " + high, x.plant(1, sort, grows, y),
                                high == then ? 1 : Due.NONE);
                    }
                }
            }
        }
        Told.is("99 years on", garden("thing 2 99 hide;").plant(HIGH, 1, 9, 99), 1);
        Told.is("all 31 eyes", garden("").plant(HIGH, 1, 9, 99), 1);
        Told.is("no eye", garden("thing 2 99 hide;").plant(0, 1, 9, 0), 1);
    }

    private static void plantNone() {
        Told.at(21, "NONE: also 6 TREES.");
        StringBuilder text = new StringBuilder();
        for (int t = 1; t <= 6; t++) {
            Told.is(t - 1 + " trees", garden(text.toString()).plant(1, 0, 0, 0), t);
            text.append("tree yew ").append(t).append(" 1 0;");
        }
        Told.is("6 trees", garden(text.toString()).plant(1, 0, 0, 0), Due.NONE);
        Told.is("6 trees, no eye", garden(text.toString()).plant(0, 0, 0, 0), Due.NONE);
        Told.is("6 trees, BAD is ahead", garden(text.toString()).plant(1, 5, 0, 0), Due.BAD);
        Told.is("nowhere", garden("thing 19 1 show;").plant(1, 0, 0, 0), Due.NONE);
    }

    private static void plantBad() {
        Told.at(21, "BAD;");
        Look.Call plant = (x, n) -> x.plant(n[0], n[1], n[2], n[3]);
        Look.refuses(Due.BAD, "plant", plant, new int[] {HIGH, 0, 0, 0}, 0, -1, LOW);
        Look.refuses(Due.BAD, "plant", plant, new int[] {1, 4, 9, 99}, 1, -1, 5, LOW, HIGH);
        Look.refuses(Due.BAD, "plant", plant, new int[] {1, 0, 9, 99}, 2, -1, 10, LOW, HIGH);
        Look.refuses(Due.BAD, "plant", plant, new int[] {1, 0, 0, 99}, 3, -1, 100, LOW, HIGH);
        OneBench five = garden("tree yew 5 1 0;");
        Told.is("with fewer trees", five.plant(-1, 0, 0, 0), Due.BAD);
        Told.is("with fewer trees", five.plant(1, 0, 0, 100), Due.BAD);
        Told.is("with fewer trees", five.plant(1, 0, 10, 0), Due.BAD);
    }

    private static void plantState() {
        Told.at(21, "STATE: no GARDEN (ahead of BAD).");
        Look.needsGarden("plant", (x, n) -> x.plant(n[0], n[1], n[2], n[3]), new int[] {1, 0, 0, 0}, new int[] {-1, 0, 0, 0},
                new int[] {1, 5, 0, 0}, new int[] {1, 0, 10, 0}, new int[] {1, 0, 0, 100});
    }

    private static void moon() {
        Told.at(22, "MOON.");
        // Ten nineteenths of 20 and 3 n, and nine of the eye, are to be more than the yew at site 10.
        for (int high = 1; high <= 50; high += 7) {
            OneBench x = garden("tree yew 10 " + high + " 0;");
            for (int eye = 0; eye <= 30; eye += 5) {
                int due = 0;
                for (int n = 0; n <= 12; n++) {
                    due |= (20 + 3 * n) * 10 + eye * 9 > high * 19 ? 1 << n : 0;
                }
                Told.is("a yew of " + high + ", eye " + eye, x.moon(eye), due);
            }
        }
        Told.is("none", garden("tree yew 18 99 0;").moon(30), 0);
        Told.is("all", garden("").moon(0), 8191);
    }

    private static void moonBad() {
        Told.at(22, "BAD;");
        Look.refuses(Due.BAD, "moon", (x, n) -> x.moon(n[0]), new int[] {30}, 0, -1, 31, LOW, HIGH);
    }

    private static void moonState() {
        Told.at(22, "STATE: no GARDEN (ahead of BAD).");
        Look.needsGarden("moon", (x, n) -> x.moon(n[0]), new int[] {0}, new int[] {31}, new int[] {-1});
    }

    private static OneBench hedged() {
        return garden("tree hedge 5 10 0;thing 8 5 show;thing 12 9 hide;thing 19 3 show;");
    }

    private static int sites(int from, int to) {
        int bits = 0;
        for (int q = from; q <= to; q++) {
            bits |= 1 << q;
        }
        return bits;
    }

    private static void path() {
        Told.at(23, "PATH.");
        OneBench x = hedged();
        Told.is("of no thing", x.path(0, 0), sites(0, 18));
        Told.is("of thing 0", x.path(0, 1), sites(0, 4) | sites(8, 18));
        Told.is("of thing 1", x.path(0, 2), sites(0, 4) | sites(12, 18));
        Told.is("of thing 2", x.path(0, 4), sites(0, 4));
        Told.is("of 0 and 1", x.path(0, 3), sites(0, 4) | sites(12, 18));
        Told.is("of all", x.path(0, 7), sites(0, 4));
        Told.is("from none", garden("thing 19 1 show;").path(0, 1), 0);
    }

    private static void pathBad() {
        Told.at(23, "BAD: eye, THINGS that there are not;");
        Look.Call path = (x, n) -> x.path(n[0], n[1]);
        Look.refuses(Due.BAD, "path", path, new int[] {30, 7}, 0, -1, 31, LOW, HIGH);
        Look.refuses(Due.BAD, "path", path, new int[] {0, 7}, 1, 8, 9, 15, 1 << 30, -1, LOW, HIGH);
        Told.is("of no things", garden("").path(0, 1), Due.BAD);
        Told.is("of no things, none", garden("").path(0, 0), sites(0, 18));
    }

    private static void pathState() {
        Told.at(23, "STATE: no GARDEN (ahead of BAD).");
        Look.needsGarden("path", (x, n) -> x.path(n[0], n[1]), new int[] {0, 0}, new int[] {31, 0}, new int[] {0, 1});
    }

    private static void picture() {
        Told.at(24, "PICTURE.");
        OneBench x = hedged();
        Told.is("of no thing", x.picture(0, 0), sites(0, 4));
        Told.is("of all", x.picture(0, 7), sites(5, 7));
        Told.is("of 1 and 2", x.picture(0, 6), sites(8, 11));
        Told.is("of 2 alone", x.picture(0, 4), sites(12, 18));
        Told.is("of 0 alone", x.picture(0, 1), 0);
        Told.is("of 1 alone", x.picture(0, 2), 0);
        Told.is("of 0 and 2", x.picture(0, 5), 0);
    }

    private static void pictureBad() {
        Told.at(24, "BAD: eye, THINGS that there are not;");
        Look.Call picture = (x, n) -> x.picture(n[0], n[1]);
        Look.refuses(Due.BAD, "picture", picture, new int[] {30, 7}, 0, -1, 31, LOW, HIGH);
        Look.refuses(Due.BAD, "picture", picture, new int[] {0, 0}, 1, 8, 9, 15, 1 << 30, -1, LOW, HIGH);
        Told.is("of no things", garden("").picture(0, 1), Due.BAD);
        Told.is("of no things, none", garden("").picture(0, 0), sites(0, 18));
    }

    private static void pictureState() {
        Told.at(24, "STATE: no GARDEN (ahead of BAD).");
        Look.needsGarden("picture", (x, n) -> x.picture(n[0], n[1]), new int[] {0, 0}, new int[] {31, 0}, new int[] {0, 1});
    }

    private static void rival() {
        Told.at(25, "RIVAL;");
        OneBench x = garden("tree hedge 9 4 0;tree yew 5 2 0;");
        for (int turns = 1; turns <= 9; turns++) {
            Told.is(turns + " turns", x.rival(0, turns), 5 * turns - 4);
        }
        OneBench high = garden("tree hedge 9 45 0;");
        Told.is("it is hidden as it is", high.rival(0, 9), 0);
        Told.is("touching hides it", high.rival(1, 9), 1);
        Told.is("asked again it answers the same", high.rival(1, 9), 1);
    }

    private static void rivalNone() {
        Told.at(25, "NONE.");
        Told.is("no tree", garden("").rival(0, 1), Due.NONE);
        Told.is("no tree that may be cut", garden("tree yew 9 4 0;tree false 8 4 0;").rival(0, 1), Due.NONE);
        Told.is("NONE in a later turn", garden("tree yew 9 5 0;").rival(0, 2), Due.NONE);
        Told.is("none needed in the first", garden("tree yew 9 5 0;").rival(0, 1), 0);
    }

    private static void rivalBad() {
        Told.at(25, "BAD;");
        Look.Call rival = (x, n) -> x.rival(n[0], n[1]);
        Look.refuses(Due.BAD, "rival", rival, new int[] {30, 1}, 0, -1, 31, LOW, HIGH);
        Look.refuses(Due.BAD, "rival", rival, new int[] {0, 9}, 1, 0, 10, -1, LOW, HIGH);
    }

    private static void rivalState() {
        Told.at(25, "STATE: no GARDEN (ahead of BAD).");
        Look.needsGarden("rival", (x, n) -> x.rival(n[0], n[1]), new int[] {0, 1}, new int[] {31, 1}, new int[] {0, 0}, new int[] {0, 10});
    }
}
