import java.util.Random;

/** All promises: runs of calls by chance (the same each time), compared with PlainBench. */
public final class PlainTest {
    private static final int RUNS = 600;
    private static final int CALLS = 512;
    private static final int ALL_CALLS = 31;

    private final Random chance;
    private final OneBench x = new OneBench();
    private final PlainBench plain = new PlainBench();
    private int calls = 0;
    private final int run;

    private PlainTest(int run) {
        this.run = run;
        chance = new Random(run);
    }

    public static void main(String[] args) {
        int runs = args.length > 0 ? Integer.parseInt(args[0]) : RUNS;
        int first = args.length > 1 ? Integer.parseInt(args[1]) : 0;
        for (int run = first; run < first + runs; run++) {
            new PlainTest(run).go();
        }
        Due.end("PlainTest");
    }

    private void go() {
        if (run % 5 != 0) {
            tell(text());
        }
        while (calls < CALLS) {
            int what = chance.nextInt(ALL_CALLS + 3);
            if (what >= ALL_CALLS) {
                look();
            } else {
                call(what);
            }
        }
    }

    private void due(String call, int got, int want) {
        calls++;
        if (calls <= CALLS) {
            Due.is("run " + run + ", call " + calls + ": " + call, got, want);
        }
    }

    private int upTo(int most) {
        return chance.nextInt(most + 1);
    }

    /** A number from low to high; now and then one beyond. */
    private int about(int low, int high) {
        int odd = chance.nextInt(60);
        if (odd == 0) {
            return low - 1;
        }
        if (odd == 1) {
            return high + 1;
        }
        if (odd == 2) {
            return new int[] {Integer.MIN_VALUE, Integer.MAX_VALUE, -1, 64}[chance.nextInt(4)];
        }
        return low + chance.nextInt(high - low + 1);
    }

    private int eyes() {
        switch (chance.nextInt(5)) {
            case 0:
                return 1 << chance.nextInt(31);
            case 1:
                return 1 << chance.nextInt(31) | 1 << chance.nextInt(31);
            case 2:
                return chance.nextInt(20) == 0 ? chance.nextInt() : 1;
            case 3:
                return plain.met(Integer.MAX_VALUE) < 0 ? 1 : plain.met(Integer.MAX_VALUE);
            default:
                return (2 << chance.nextInt(6)) - 1;
        }
    }

    private int things() {
        return about(0, Math.max(0, (1 << plain.count(2)) - 1));
    }

    private String text() {
        StringBuilder s = new StringBuilder("ground");
        int most = new int[] {0, 3, 10, 60}[chance.nextInt(4)];
        for (int q = 0; q < 20; q++) {
            s.append(blank()).append(upTo(most));
        }
        s.append(';');
        if (chance.nextInt(3) > 0) {
            int from = upTo(19);
            s.append("lake").append(blank()).append(from).append(blank()).append(from + upTo(19 - from)).append(';');
        }
        int trees = upTo(6);
        int first = upTo(19);
        for (int t = 0; t < trees; t++) {
            int site = (first + t * 7) % 20;
            s.append("tree ").append(new String[] {"ash", "yew", "oak", "hedge", "false"}[chance.nextInt(5)]);
            s.append(blank()).append(site).append(blank()).append(1 + upTo(most == 0 ? 20 : 98));
            s.append(blank()).append(upTo(9)).append(';');
        }
        int things = upTo(chance.nextInt(4) == 0 ? 6 : 3);
        for (int i = 0; i < things; i++) {
            s.append("thing ").append(upTo(19)).append(blank()).append(1 + upTo(98)).append(blank());
            s.append(chance.nextInt(3) > 0 ? "show;" : "hide;");
        }
        return s.toString();
    }

    private String blank() {
        return new String[] {" ", " ", " ", " ", " ", " ", "\n", "  "}[chance.nextInt(8)];
    }

    private String damaged(String text) {
        StringBuilder s = new StringBuilder(text);
        int times = 1 + chance.nextInt(2);
        for (int k = 0; k < times && s.length() > 0; k++) {
            int at = chance.nextInt(s.length());
            switch (chance.nextInt(5)) {
                case 0:
                    s.deleteCharAt(at);
                    break;
                case 1:
                    s.setCharAt(at, "0123456789;; \nabcz{/:\u0000\u00ff".charAt(chance.nextInt(23)));
                    break;
                case 2:
                    s.setLength(at);
                    break;
                case 3:
                    s.insert(at, new String[] {"tree ", "thing ", "lake 0 5;", "7", ";", "ground", "61 "}[chance.nextInt(7)]);
                    break;
                default:
                    s.append(new String[] {"tree oak 0 9 9;", "thing 0 1 hide;", "lake 0 1;", " ", "x", "5"}[chance.nextInt(6)]);
                    break;
            }
        }
        return s.toString();
    }

    private void tell(String text) {
        for (int i = 0; i < text.length(); i += 8) {
            int n = Math.min(8, text.length() - i);
            long w = chance.nextInt(4) == 0 ? chance.nextLong() : 0;
            for (int k = 0; k < n; k++) {
                w = w << 8 | text.charAt(i + k);
            }
            due("feed", x.feed(w, n), plain.feed(w, n));
        }
        due("garden of " + text, x.garden(), plain.garden());
        due("fault", x.fault(), plain.fault());
    }

    private void look() {
        int tree = upTo(5);
        int site = upTo(19);
        for (int what = 0; what < 4; what++) {
            due("tree", x.tree(tree, what), plain.tree(tree, what));
            due("site", x.site(site, what), plain.site(site, what));
            due("count", x.count(what + 3), plain.count(what + 3));
        }
    }

    private void call(int what) {
        int a = about(0, 7);
        int b = about(0, 7);
        int tree = about(0, Math.max(0, plain.count(1) - 1));
        int eye = about(0, 30);
        switch (what) {
            case 0: {
                int lane = about(0, 2);
                int n = chance.nextInt(3) == 0 ? about(0, 40) : 20 + upTo(20);
                due("row", x.row(a, lane, n), plain.row(a, lane, n));
                break;
            }
            case 1: {
                int i = about(0, 40);
                int v = chance.nextInt(3) == 0 ? chance.nextInt() : about(0, 60);
                due("set", x.set(a, i, v), plain.set(a, i, v));
                break;
            }
            case 2: {
                int i = about(0, 20);
                int j = about(0, 20);
                int n = about(0, 25);
                due("copy", x.copy(a, i, b, j, n), plain.copy(a, i, b, j, n));
                break;
            }
            case 3:
                due("drop", x.drop(a), plain.drop(a));
                break;
            case 4:
                if (chance.nextInt(6) == 0) {
                    String text = text();
                    tell(chance.nextBoolean() ? text : damaged(text));
                } else if (chance.nextInt(8) == 0) {
                    long w = chance.nextLong();
                    int n = about(1, 8);
                    due("feed", x.feed(w, n), plain.feed(w, n));
                }
                break;
            case 5: {
                int n = chance.nextInt(3) == 0 ? about(1, 99) : about(1, 3);
                due("years " + n, x.years(n), plain.years(n));
                break;
            }
            case 6: {
                int is = about(0, 1);
                due("winter " + is, x.winter(is), plain.winter(is));
                break;
            }
            case 7: {
                int n = about(1, chance.nextInt(4) == 0 ? 99 : 9);
                due("clip", x.clip(tree, n), plain.clip(tree, n));
                break;
            }
            case 8: {
                int site = about(1, 18);
                due("move", x.move(tree, site), plain.move(tree, site));
                break;
            }
            case 9: {
                int i = about(0, 20);
                due("level", x.level(a, i), plain.level(a, i));
                due("status", x.status(), plain.status());
                break;
            }
            case 10:
                due("undo", x.undo(), plain.undo());
                break;
            case 11: {
                int w = about(0, 3);
                due("tree", x.tree(tree, w), plain.tree(tree, w));
                break;
            }
            case 12: {
                int site = about(0, 19);
                int w = about(0, 2);
                due("site", x.site(site, w), plain.site(site, w));
                break;
            }
            default:
                callSeen(what, tree, eye);
                break;
        }
    }

    private void callSeen(int what, int tree, int eye) {
        switch (what) {
            case 13:
            case 14: {
                int site = about(0, 18);
                due("seen", x.seen(site, eye), plain.seen(site, eye));
                break;
            }
            case 15:
                due("doubled", x.doubled(eye), plain.doubled(eye));
                break;
            case 16: {
                int eyes = chance.nextInt(3) == 0 ? eyes() : Integer.MAX_VALUE;
                due("met", x.met(eyes), plain.met(eyes));
                break;
            }
            case 17: {
                int eyes = eyes();
                int other = about(0, Math.max(0, plain.count(1) - 1));
                for (int w = 0; w < 2; w++) {
                    due("cut of " + eyes, x.cut(eyes, tree, other, w), plain.cut(eyes, tree, other, w));
                }
                break;
            }
            case 18: {
                int eyes = eyes();
                int sort = about(0, 4);
                int grows = about(0, 9);
                int y = about(0, chance.nextBoolean() ? 99 : 10);
                due("plant", x.plant(eyes, sort, grows, y), plain.plant(eyes, sort, grows, y));
                break;
            }
            case 19:
                due("moon", x.moon(eye), plain.moon(eye));
                break;
            case 20: {
                int things = things();
                due("path", x.path(eye, things), plain.path(eye, things));
                break;
            }
            case 21: {
                int things = chance.nextBoolean() ? things() : Math.max(0, plain.seen(upTo(18), Math.min(30, Math.max(0, eye))));
                due("picture", x.picture(eye, things), plain.picture(eye, things));
                break;
            }
            case 22: {
                int turns = about(1, 9);
                due("rival", x.rival(eye, turns), plain.rival(eye, turns));
                break;
            }
            default:
                callAsked(what, tree);
                break;
        }
    }

    private void callAsked(int what, int tree) {
        switch (what) {
            case 23: {
                int k = about(0, 1);
                due("image", x.image(k), plain.image(k));
                break;
            }
            case 24: {
                int k = about(0, 1);
                if (chance.nextInt(3) == 0) {
                    due("restore", x.restore(k), plain.restore(k));
                }
                break;
            }
            case 25:
                due("kind", x.kind(tree), plain.kind(tree));
                break;
            case 26: {
                int kind = about(0, 5);
                due("as", x.as(tree, kind), plain.as(tree, kind));
                break;
            }
            case 27: {
                int w = about(0, 1);
                due("ask", x.ask(tree, w), plain.ask(tree, w));
                break;
            }
            case 28: {
                int i = about(0, 16);
                due("trace", x.trace(i), plain.trace(i));
                break;
            }
            case 29: {
                int w = about(0, 6);
                due("count", x.count(w), plain.count(w));
                break;
            }
            default:
                due("status", x.status(), plain.status());
                break;
        }
    }
}
