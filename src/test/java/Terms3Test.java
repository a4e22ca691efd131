import java.util.List;

/** "Terms", part 3: days, what is foretold, the kinds of trees. */
public final class Terms3Test {
    private static final String FIVE = Due.FLAT + "tree ash 2 9 1;tree oak 4 9 1;tree yew 6 9 1;tree hedge 8 9 1;"
            + "tree false 10 9 1;";

    public static void main(String[] args) throws Exception {
        daysAreKept();
        latestFirst();
        nothingBecomesAnother();
        yearsGoBy();
        winterOrNot();
        treeIsCut();
        treeIsMoved();
        nothingChanges();
        cut();
        plant();
        moon();
        path();
        picture();
        rival();
        rivalNone();
        rivalInWinter();
        kinds();
        byThisItIsAsked();
        Told.end("Terms3Test", "Terms 3");
    }

    private static void daysAreKept() {
        Told.term(3, "DAYS (24 at most are kept, of more the oldest is forgotten;");
        for (int days = 22; days <= 50; days++) {
            OneBench x = Due.bench(FIVE);
            for (int i = 1; i <= days; i++) {
                x.years(1);
                Told.is("days behind " + i, x.count(4), Math.min(i, 24));
            }
            int kept = Math.min(days, 24);
            for (int i = 1; i <= kept; i++) {
                Told.is("undone of " + days, x.undo(), kept - i);
            }
            Told.is("the oldest are forgotten", x.count(3), days - kept);
            Told.is("none left", x.undo(), Due.STATE);
        }
    }

    private static void latestFirst() {
        Told.term(3, "each can be undone, the latest first;");
        OneBench x = Due.bench(FIVE);
        x.row(0, 0, 20);
        x.set(0, 3, 44);
        x.years(5);
        x.winter(1);
        x.clip(0, 3);
        x.move(2, 17);
        x.level(0, 0);
        Told.is("the ground", x.undo() + x.site(3, 0), 4);
        Told.is("the site", x.undo(), 3);
        Told.is("it was", x.tree(2, 0), 6);
        Told.is("it is gone from there", x.site(17, 2), Due.NONE);
        Told.is("what is cut", x.undo() + x.tree(0, 2), 2);
        Told.is("the winter", x.undo() + x.count(5), 1);
        Told.is("the years", x.undo() + x.count(3), 0);
        Told.is("none", x.undo(), Due.STATE);
        x.clip(1, 1);
        x.clip(1, 2);
        x.undo();
        x.clip(1, 4);
        Told.is("an undone day does not come back", x.tree(1, 2), 5);
        x.undo();
        x.undo();
        Told.is("all undone", x.tree(1, 2), 0);
    }

    private static void nothingBecomesAnother() {
        Told.term(3, "also such by which nothing becomes another):");
        OneBench x = Due.bench(FIVE);
        x.row(0, 0, 20);
        Told.is("no winter as it was", x.winter(0), 0);
        Told.is("the ground as it was", x.level(0, 0), 1);
        x.clip(3, 99);
        Told.is("nothing left to cut", x.clip(3, 9), 0);
        Told.is("years of hedges", x.years(1), 1);
        Told.is("days", x.count(4), 5);
        for (int left = 4; left >= 0; left--) {
            Told.is("undone", x.undo(), left);
        }
        Told.is("none", x.undo(), Due.STATE);
    }

    private static void yearsGoBy() {
        Told.term(3, "YEARS go by;");
        OneBench x = Due.bench(FIVE);
        Told.is("years", x.years(7), 7);
        Told.is("they add up", x.years(99), 106);
        Told.is("days", x.count(4), 2);
        x.undo();
        Told.is("undone", x.count(3), 7);
    }

    private static void winterOrNot() {
        Told.term(3, "WINTER or not;");
        OneBench x = Due.bench(FIVE);
        x.winter(1);
        x.years(1);
        Told.is("years do not end it", x.count(5), 1);
        x.undo();
        x.undo();
        Told.is("undone", x.count(5), 0);
        x.winter(1);
        x.winter(0);
        x.undo();
        Told.is("it is again", x.count(5), 1);
    }

    private static void treeIsCut() {
        Told.term(3, "a TREE is CUT by so much more (a yew never: it is holy; a false one never);");
        OneBench x = Due.bench(FIVE);
        int[] due = {6, 6, Due.STATE, 6, Due.STATE};
        for (int t = 0; t < 5; t++) {
            Told.is("tree " + t, x.clip(t, 3), due[t]);
            Told.is("what is cut", x.tree(t, 2), due[t] > 0 ? 3 : 0);
        }
        Told.is("days", x.count(4), 3);
        Told.is("more", x.clip(0, 4), 2);
        Told.is("by so much more", x.tree(0, 2), 7);
        Told.is("a yew in no foretold way", x.cut(1, 0, 2, 0), Due.BAD);
        Told.is("nor a false one", x.cut(1, 4, 1, 0), Due.BAD);
        Told.is("two others", x.cut(1, 0, 1, 0), 0);
    }

    private static void treeIsMoved() {
        Told.term(3, "a TREE is MOVED to another SITE (1 to 18, where no TREE is).");
        for (int site = -1; site <= 20; site++) {
            OneBench x = Due.bench(FIVE);
            boolean isBad = site < 1 || site > 18;
            boolean isTaken = site >= 2 && site <= 10 && site % 2 == 0;
            Told.is("a yew to " + site, x.move(2, site), isBad ? Due.BAD : isTaken ? Due.STATE : 6);
            Told.is("its site", x.tree(2, 0), isBad || isTaken ? 6 : site);
            Told.is("days", x.count(4), isBad || isTaken ? 0 : 1);
        }
        OneBench y = Due.bench(Due.FLAT + "tree false 0 9 1;tree ash 19 9 1;thing 5 9 show;");
        Told.is("from site 0", y.move(0, 5), 0);
        Told.is("from site 19", y.move(1, 18), 19);
        Told.is("never back to 19", y.move(1, 19), Due.BAD);
    }

    private static void nothingChanges() {
        Told.term(3, "FORETOLD (nothing changes):");
        for (int k = 0; k < 8; k++) {
            OneBench x = Look.rich();
            OneBench twin = Look.rich();
            int[] answers = {x.cut(1, 0, 1, 0), x.cut(3, 3, 5, 1), x.plant(1, 0, 9, 9), x.moon(9), x.path(9, 3),
                x.picture(9, 1), x.rival(9, 9), x.met(Integer.MAX_VALUE)};
            Told.isSo("no refusal", answers[k] >= 0 || answers[k] == Due.NONE);
            Told.is("status", x.status(), twin.status());
            Told.isSo("all stays", Look.through(x).equals(Look.through(twin)));
        }
    }

    /** The least by trying: answers x and y as 1000 times their sum, and x; or -1. */
    private static int leastTried(String text, int eyes, int a, int b) {
        OneBench whole = Due.bench(text);
        int highA = whole.tree(a, 1);
        int highB = whole.tree(b, 1);
        int best = -1;
        for (int x = 0; x <= highA; x++) {
            for (int y = 0; y <= highB; y++) {
                OneBench bench = Due.bench(text);
                if (x > 0) {
                    bench.clip(a, x);
                }
                if (y > 0) {
                    bench.clip(b, y);
                }
                int cost = 1000 * (x + y) + x;
                if (bench.met(eyes) == eyes && (best < 0 || cost < best)) {
                    best = cost;
                }
            }
        }
        return best;
    }

    private static void cut() {
        Told.term(3, "CUT for EYES (bits 0 to 30): two unlike TREES, that may be CUT, by x and y more (0 to HEIGHT each): "
                + "x and y together least, of like ones x least, by which WANTS are met for each EYE; NONE.");
        String[] gardens = {
            "tree hedge 5 15 0;tree oak 8 19 0;thing 10 20 show;",
            "tree hedge 5 12 0;tree oak 8 9 0;thing 10 20 show;thing 10 6 hide;",
            "tree ash 3 8 0;tree oak 7 12 0;thing 9 9 show;thing 12 3 show;thing 5 1 show;",
            "tree ash 5 9 0;tree hedge 6 9 0;thing 10 20 hide;",
            "tree ash 12 9 0;tree hedge 6 9 0;thing 10 7 show;",
            "tree ash 0 9 0;tree hedge 10 9 0;thing 10 7 show;",
            "tree ash 4 9 0;tree hedge 6 9 0;tree yew 8 20 0;thing 10 7 show;",
            "tree ash 1 9 0;tree hedge 2 9 0;thing 10 7 show;",
            "tree ash 18 9 0;tree hedge 17 9 0;thing 19 7 show;",
            "tree ash 3 9 0;tree hedge 2 9 0;" + "thing 9 4 show;".repeat(5) + "thing 8 3 show;"};
        String hill = "ground 9 0 0 0 0 0 0 0 0 0 0 0 0 0 0 0 0 0 0 0;";
        int[] eyes = {0, 1, 2, 3, 1 << 8, 1 << 30, 1 | 1 << 30, 9 << 3};
        for (String garden : gardens) {
            for (int set : eyes) {
                for (int way = 0; way < 2; way++) {
                    int least = leastTried(Due.FLAT + garden, set, way, 1 - way);
                    OneBench x = Due.bench(Due.FLAT + garden);
                    String call = "eyes " + set + ", trees " + way + ", " + (1 - way) + " of " + garden;
                    Told.is("x and y, " + call, x.cut(set, way, 1 - way, 0), least < 0 ? Due.NONE : least / 1000);
                    Told.is("x, " + call, x.cut(set, way, 1 - way, 1), least < 0 ? Due.NONE : least % 1000);
                }
            }
        }
        for (String garden : new String[] {gardens[0], gardens[7]}) {
            int least = leastTried(hill + garden, 2, 0, 1);
            OneBench x = Due.bench(hill + garden);
            Told.is("x and y, from a hill, of " + garden, x.cut(2, 0, 1, 0), least / 1000);
            Told.is("x, from a hill, of " + garden, x.cut(2, 0, 1, 1), least % 1000);
        }
        OneBench all = Due.bench(Due.FLAT + "tree oak 5 99 0;tree ash 6 99 0;thing 10 1 show;");
        Told.is("to 0 each", all.cut(1, 0, 1, 0), 198);
        Told.is("as high as it is", all.cut(1, 0, 1, 1), 99);
        Told.is("for eyes 0 to 30", all.cut(Integer.MAX_VALUE, 0, 1, 0), 198);
        Told.is("no bit 31", all.cut(-1, 0, 1, 0), Due.BAD);
        OneBench mound = Due.bench("ground 0 0 0 0 0 1 0 0 0 0 0 0 0 0 0 0 0 0 0 0;tree oak 5 9 0;tree ash 6 9 0;thing 10 2 show;");
        Told.is("the ground bars it", mound.cut(1, 0, 1, 0), Due.NONE);
    }

    private static void plant() {
        Told.term(3, "PLANT: a TREE of a SORT, HIGH 5 now (it grows from now on), more: at the first SITE (1 to 18) without a TREE, "
                + "where WANTS are met for each EYE, y YEARS on, without WINTER; NONE.");
        // To the top of 2 h at site 2 the line from eye 0 is h high at site 1, where alone it can be barred.
        for (int high = 1; high <= 49; high++) {
            OneBench x = Due.bench(Due.FLAT + "thing 2 " + 2 * high + " hide;");
            x.years(50);
            x.winter(1);
            for (int sort = 0; sort < 5; sort++) {
                for (int y = 0; y <= 15; y += 3) {
                    int then = 5 + (sort < 3 ? 4 * y : 0);
                    Told.is("sort " + sort + " against " + high + ", " + y + " years on", x.plant(1, sort, 4, y),
                            then >= high ? 1 : Due.NONE);
                }
            }
        }
        OneBench most = Due.bench("ground 0 0 60 0 0 0 0 0 0 0 0 0 0 0 0 0 0 0 0 0;thing 2 99 hide;");
        Told.is("79 and a half are barred by 80", most.plant(1, 2, 1, 75), 1);
        Told.is("not by 79", most.plant(1, 2, 1, 74), Due.NONE);
        OneBench taken = Due.bench(FIVE.replace("tree ash 2", "tree ash 1") + "thing 3 60 show;");
        Told.is("the first without a tree", taken.plant(1, 0, 0, 0), 2);
        OneBench last = Due.bench(Due.FLAT + "thing 18 1 show;thing 19 5 hide;");
        Told.is("site 18", last.plant(1, 0, 0, 0), 18);
        OneBench only19 = Due.bench(Due.FLAT + "thing 19 1 show;");
        Told.is("not site 19, not site 0", only19.plant(1, 0, 0, 0), Due.NONE);
        OneBench grown = Due.bench(Due.FLAT + "tree oak 5 2 1;thing 10 20 hide;");
        Told.is("others grow, too: nine years on they hide", grown.plant(1, 3, 0, 9), 1);
        OneBench lone = Due.bench(Due.FLAT + "tree oak 5 11 1;tree yew 7 2 2;thing 10 20 hide;");
        Told.is("others alone hide nine years on", lone.plant(1 << 20, 3, 0, 9), 1);
        Told.is("not eight years on", lone.plant(1 << 20, 3, 0, 8), Due.NONE);
        lone.years(4);
        Told.is("five years on from year 4", lone.plant(1 << 20, 3, 0, 5), 1);
        Told.is("not four", lone.plant(1 << 20, 3, 0, 4), Due.NONE);
        OneBench bare = Due.bench(Due.FLAT + "tree ash 5 20 0;thing 10 20 hide;");
        bare.winter(1);
        Told.is("an ash is seen without winter", bare.plant(1 << 9, 3, 0, 0), 1);
        Told.is("for each eye", bare.plant(1 | 1 << 9 | 1 << 20, 3, 0, 0), 1);
        Told.is("not for one of them", bare.plant(1 | 1 << 21, 3, 0, 0), Due.NONE);
    }

    private static void moon() {
        Told.term(3, "MOON on night n (0 to 12): a THING at SITE 19, HIGH 20 and 3 n: "
                + "nights (bits) on which it is SEEN from an EYE at SITE 0.");
        for (int high = 9; high <= 29; high++) {
            for (int ground = 0; ground <= 60; ground += 30) {
                String to = ground + ";tree yew 10 " + high + " 0;";
                OneBench x = Due.bench("ground 0 0 0 0 0 0 0 0 0 0 0 0 0 0 0 0 0 0 0 " + to);
                for (int eye = 0; eye <= 30; eye += 15) {
                    int due = 0;
                    for (int n = 0; n <= 12; n++) {
                        OneBench thing = Due.bench("ground 0 0 0 0 0 0 0 0 0 0 0 0 0 0 0 0 0 0 0 " + to
                                + "thing 19 " + (20 + 3 * n) + " show;");
                        due |= thing.seen(0, eye) << n;
                    }
                    Told.is("eye " + eye + ", a yew of " + high + ", ground " + ground, x.moon(eye), due);
                }
            }
        }
        for (int rise = 0; rise <= 60; rise += 5) {
            // The yew of 29 at site 10: nine nineteenths of the eye and ten of 20 and 3 n are to be more.
            OneBench risen = Due.bench("ground " + rise + " 0 0 0 0 0 0 0 0 0 0 0 0 0 0 0 0 0 0 0;tree yew 10 29 0;");
            int due = 0;
            for (int n = 0; n <= 12; n++) {
                due |= (rise + 7) * 9 + (20 + 3 * n) * 10 > 29 * 19 ? 1 << n : 0;
            }
            Told.is("an eye 7 above ground " + rise, risen.moon(7), due);
        }
        OneBench all = Due.bench(Due.FLAT);
        Told.is("13 nights, no more", all.moon(0), (1 << 13) - 1);
        Told.is("a thing there hides it not", Due.bench(Due.FLAT + "tree yew 19 99 0;thing 19 99 hide;").moon(0), 8191);
    }

    private static OneBench hilly() {
        return Due.bench("ground 3 9 0 0 5 5 0 0 12 0 0 0 7 0 0 0 0 0 20 0;tree oak 6 14 0;tree yew 15 9 0;"
                + "thing 5 9 show;thing 9 20 hide;thing 13 1 show;thing 17 30 show;thing 19 2 show;thing 19 90 hide;");
    }

    private static void path() {
        Told.term(3, "PATH: SITES 0 to 18 (bits) from which by an EYE none of told THINGS (bits) is SEEN.");
        for (int eye = 0; eye <= 30; eye += 10) {
            OneBench x = hilly();
            for (int things = 0; things < 64; things++) {
                int due = 0;
                OneBench y = hilly();
                for (int site = 0; site <= 18; site++) {
                    due |= (y.seen(site, eye) & things) == 0 ? 1 << site : 0;
                }
                Told.is("things " + things + ", eye " + eye, x.path(eye, things), due);
            }
            Told.is("of none: all", x.path(eye, 0), (1 << 19) - 1);
            Told.is("there is no thing 6", x.path(eye, 64), Due.BAD);
        }
    }

    private static void picture() {
        Told.term(3, "PICTURE: SITES 0 to 18 (bits) from which by an EYE just told THINGS are SEEN.");
        for (int eye = 0; eye <= 30; eye += 10) {
            OneBench x = hilly();
            int all = 0;
            for (int things = 0; things < 64; things++) {
                int due = 0;
                OneBench y = hilly();
                for (int site = 0; site <= 18; site++) {
                    due |= y.seen(site, eye) == things ? 1 << site : 0;
                }
                Told.is("things " + things + ", eye " + eye, x.picture(eye, things), due);
                all += due;
            }
            Told.is("each site is in one picture", all, (1 << 19) - 1);
            Told.is("there is no thing 6", x.picture(eye, 64), Due.BAD);
        }
    }

    private static final String[] RIVAL_TREES = {"oak 5", "hedge 9", "yew 12", "ash 17", "false 3", "oak 18"};
    private static final boolean[] MAY = {true, true, false, true, false, false};

    private static boolean towerSeen(int[] ground, int[] high, int eye, int turn) {
        StringBuilder text = new StringBuilder("ground");
        for (int g : ground) {
            text.append(' ').append(g);
        }
        text.append(';');
        for (int t = 0; t < 6; t++) {
            text.append("tree ").append(RIVAL_TREES[t]).append(' ').append(high[t]).append(" 0;");
        }
        return Due.bench(text + "thing 18 " + 10 * turn + " hide;").seen(0, eye) == 1;
    }

    private static int rivalTried(int[] ground, int[] highs, int eye, int turns) {
        int[] high = highs.clone();
        int inches = 0;
        for (int turn = 1; turn <= turns; turn++) {
            if (towerSeen(ground, high, eye, turn)) {
                int least = 100;
                int best = -1;
                for (int t = 0; t < 6; t++) {
                    for (int more = 1; MAY[t] && high[t] + more <= 99; more++) {
                        int[] then = high.clone();
                        then[t] += more;
                        if (more < least && !towerSeen(ground, then, eye, turn)) {
                            least = more;
                            best = t;
                        }
                    }
                }
                if (best < 0) {
                    return Due.NONE;
                }
                high[best] += least;
                inches += least;
            }
        }
        return inches;
    }

    private static void rival() {
        Told.term(3, "RIVAL: a tower at SITE 18, HIGH 10 times t in turn t (1 on), a THING; in each turn, if it is SEEN "
                + "(other THINGS aside) from an EYE at SITE 0, of TREES at SITES 1 to 17 that may be CUT the one whose HEIGHT is to be "
                + "more by least (1 and more; 99 at most then), so that it is not SEEN, of several the first, is so "
                + "(and stays so in the turns behind): behind how many turns (1 to 9) how many inches in all;");
        int[][] grounds = {new int[20], {30, 0, 0, 0, 0, 9, 0, 0, 0, 2, 0, 0, 0, 0, 0, 0, 0, 1, 40, 0}};
        int[][] highs = {{1, 1, 1, 1, 1, 1}, {4, 9, 3, 16, 5, 99}};
        for (int[] ground : grounds) {
            for (int[] high : highs) {
                for (int eye = 0; eye <= 30; eye += 15) {
                    StringBuilder text = new StringBuilder("ground");
                    for (int g : ground) {
                        text.append(' ').append(g);
                    }
                    text.append(';');
                    for (int t = 0; t < 6; t++) {
                        text.append("tree ").append(RIVAL_TREES[t]).append(' ').append(high[t]).append(" 0;");
                    }
                    OneBench x = Due.bench(text + "thing 18 99 show;thing 4 1 hide;");
                    for (int turns = 1; turns <= 9; turns += 2) {
                        Told.is(turns + " turns, eye " + eye + ", " + text, x.rival(eye, turns),
                                rivalTried(ground, high, eye, turns));
                    }
                }
            }
        }
        OneBench like = Due.bench(Due.FLAT + "tree oak 9 1 0;tree oak 10 2 0;");
        Told.is("of like ones the first: 4, of 5 at site 9", like.rival(0, 1), 4);
        Told.is("it is the first that stays so: 5 more, not 6", like.rival(0, 2), 9);
        OneBench other = Due.bench(Due.FLAT + "tree oak 10 2 0;tree oak 9 1 0;");
        Told.is("tree 0 is the first, though behind tree 1: 4, of 6 at site 10", other.rival(0, 1), 4);
        Told.is("it stays so: 6 more, not 5", other.rival(0, 2), 10);
    }

    private static void rivalNone() {
        Told.term(3, "NONE: by no TREE it can be hidden.");
        String far = "ground 60 0 0 0 0 0 0 0 0 0 0 0 0 0 0 0 0 0 60 0;";
        Told.is("no tree", Due.bench(Due.FLAT).rival(0, 1), Due.NONE);
        Told.is("a yew", Due.bench(Due.FLAT + "tree yew 9 1 0;").rival(0, 1), Due.NONE);
        Told.is("a false one", Due.bench(Due.FLAT + "tree false 9 1 0;").rival(0, 1), Due.NONE);
        Told.is("at site 0", Due.bench(Due.FLAT + "tree oak 0 1 0;").rival(0, 1), Due.NONE);
        Told.is("at site 18", Due.bench(Due.FLAT + "tree oak 18 1 0;").rival(0, 1), Due.NONE);
        Told.is("at site 19", Due.bench(Due.FLAT + "tree oak 19 1 0;").rival(0, 1), Due.NONE);
        Told.is("at site 1", Due.bench(Due.FLAT + "tree oak 1 1 0;").rival(0, 2), 1);
        Told.is("at site 17", Due.bench(Due.FLAT + "tree oak 17 1 0;").rival(0, 1), 9);
        // From 78 to 60 and 10 t the line is half of both at site 9: 99 in turn 6.
        Told.is("99 at most then", Due.bench(far + "tree oak 9 98 0;").rival(18, 6), 1);
        Told.is("not 100", Due.bench(far + "tree oak 9 98 0;").rival(20, 6), Due.NONE);
        Told.is("not in a later turn", Due.bench(far + "tree oak 9 98 0;").rival(18, 7), Due.NONE);
        // From 90 to 70 and on the line is above 84 at site 5: by a tree on ground 40 its top is above 99 in turn 6.
        String hill = "ground 60 0 0 0 0 40 0 0 0 0 0 0 0 0 0 0 0 0 60 0;tree oak 5 9 0;";
        for (int turns = 1; turns <= 9; turns++) {
            int line = (90 * 13 + (60 + 10 * turns) * 5 + 17) / 18;
            Told.is("99 is the height, not the top, in turn " + turns, Due.bench(hill).rival(30, turns), line - 49);
        }
        Told.is("a yew that hides it will do", Due.bench(Due.FLAT + "tree yew 9 50 0;").rival(0, 9), 0);
    }

    private static void rivalInWinter() {
        Told.term(3, "(An ash in WINTER hides nothing.)");
        OneBench x = Due.bench(Due.FLAT + "tree ash 9 4 0;");
        Told.is("in summer", x.rival(0, 1), 1);
        x.winter(1);
        Told.is("in winter", x.rival(0, 1), Due.NONE);
        OneBench high = Due.bench(Due.FLAT + "tree ash 9 99 0;tree hedge 12 1 0;");
        Told.is("in summer", high.rival(0, 3), 0);
        high.winter(1);
        Told.is("in winter the hedge has to", high.rival(0, 3), 19);
        OneBench oak = Due.bench(Due.FLAT + "tree oak 9 4 0;");
        oak.winter(1);
        Told.is("an oak is not bare", oak.rival(0, 1), 1);
    }

    private static void kinds() {
        Told.term(3, "KINDS of TREES: 0 TREE; 1 ASH, a TREE; 2 OAK, an ASH one; 3 YEW, a TREE; 4 HEDGE, a TREE; 5 FALSE, a HEDGE one.");
        OneBench x = Due.bench(FIVE);
        List<String> are = List.of("01", "012", "03", "04", "045");
        int[] kind = {1, 2, 3, 4, 5};
        for (int t = 0; t < 5; t++) {
            Told.is("kind of " + t, x.kind(t), kind[t]);
            for (int k = 0; k <= 5; k++) {
                boolean is = are.get(t).indexOf('0' + k) >= 0;
                Told.is(t + " as " + k, x.as(t, k), is ? t : Due.KIND);
            }
        }
    }

    private static void byThisItIsAsked() {
        Told.term(3, "By this it is asked.");
        OneBench x = Due.bench(FIVE);
        int[] first = {11, 12, 10, 13, 14};
        int[] marks = {21, 24, 22, 23, 23};
        for (int t = 0; t < 5; t++) {
            x.ask(t, 0);
            Told.is("the first body of a size", x.trace(0), first[t]);
            x.ask(t, 1);
            Told.is("the first body of a mark", x.trace(0), marks[t]);
        }
    }
}
