import java.util.ArrayDeque;
import java.util.ArrayList;
import java.util.Arrays;
import java.util.Deque;
import java.util.HashMap;
import java.util.List;
import java.util.Map;
import java.util.regex.Matcher;
import java.util.regex.Pattern;

/** The document once more, word by word and by trying all there is, for the tests to compare with. */
final class PlainBench {
    private static final int NONE = -1000000, BAD = -1000001, STATE = -1000002, FULL = -1000003;

    private record Tree(String sort, int site, int high, int grows, int cut, int extra) {
        Tree cutBy(int n) {
            return new Tree(sort, site, high, grows, cut + n, extra);
        }

        Tree at(int q) {
            return new Tree(sort, q, high, grows, cut, extra);
        }

        Tree more(int inches) {
            return new Tree(sort, site, high, grows, cut, extra + inches);
        }

        boolean mayBeCut() {
            return !sort.equals("yew") && !sort.equals("false");
        }

        int height(int year, boolean winter) {
            if (sort.equals("ash") && winter) {
                return 0;
            }
            boolean grown = !sort.equals("hedge") && !sort.equals("false");
            int h = Math.min(99, high + (grown ? grows * year : 0)) - cut;
            return Math.max(0, h) + extra;
        }
    }

    private record Thing(int site, int high, boolean show) {
    }

    /** Never changed once it is made: a day makes another. */
    private record Garden(List<Integer> ground, int from, int to, List<Tree> trees, List<Thing> things,
            int year, boolean winter) {
        Garden with(List<Tree> others) {
            return new Garden(ground, from, to, others, things, year, winter);
        }

        Garden with(int t, Tree other) {
            List<Tree> others = new ArrayList<>(trees);
            others.set(t, other);
            return with(others);
        }

        Garden in(int newYear, boolean newWinter) {
            return new Garden(ground, from, to, trees, things, newYear, newWinter);
        }

        Garden on(List<Integer> newGround) {
            return new Garden(newGround, from, to, trees, things, year, winter);
        }

        int treeAt(int q) {
            for (int t = 0; t < trees.size(); t++) {
                if (trees.get(t).site == q) {
                    return t;
                }
            }
            return NONE;
        }

        int height(int t) {
            return trees.get(t).height(year, winter);
        }

        int bar(int q) {
            int t = treeAt(q);
            return ground.get(q) + (t == NONE ? 0 : height(t));
        }

        boolean free(long heightA, int a, long heightB, int c) {
            for (int q = a + 1; q < c; q++) {
                if (!((heightB - heightA) * (q - a) + heightA * (c - a) > (long) bar(q) * (c - a))) {
                    return false;
                }
            }
            return true;
        }

        boolean sees(int site, int eye, Thing thing) {
            return site < thing.site
                    && free(ground.get(site) + eye, site, ground.get(thing.site) + thing.high, thing.site);
        }

        int seen(int site, int eye) {
            int bits = 0;
            for (int i = 0; i < things.size(); i++) {
                bits |= sees(site, eye, things.get(i)) ? 1 << i : 0;
            }
            return bits;
        }

        boolean doubled(int eye, Thing thing) {
            boolean by = false;
            for (int m = 0; m < 20; m++) {
                if (from >= 0 && m >= from && m <= to && m > 0 && m < thing.site) {
                    by |= free(ground.get(0) + eye, 0, ground.get(m), m)
                            && free(ground.get(m), m, ground.get(thing.site) + thing.high, thing.site);
                }
            }
            return by && sees(0, eye, thing);
        }

        boolean met(int eye) {
            for (Thing thing : things) {
                if (thing.show != sees(0, eye, thing)) {
                    return false;
                }
            }
            return true;
        }

        int metFor(int eyes) {
            int bits = 0;
            for (int e = 0; e <= 30; e++) {
                bits |= (eyes >> e & 1) == 1 && met(e) ? 1 << e : 0;
            }
            return bits;
        }
    }

    private static final class Fault extends RuntimeException {
        private static final long serialVersionUID = 1;
        final int place;
        final int number;

        Fault(int place, int number) {
            this.place = place;
            this.number = number;
        }
    }

    private static final class Row {
        final int bits;
        final int[] items;

        Row(int bits, int n) {
            this.bits = bits;
            this.items = new int[n];
        }
    }

    private final Map<Integer, Row> rows = new HashMap<>();
    private final StringBuilder tape = new StringBuilder();
    private Garden g = null;
    private final Deque<Garden> days = new ArrayDeque<>();
    private final Garden[] images = new Garden[2];
    private List<Integer> trace = new ArrayList<>();
    private int fault = 0;
    private int status = 0;

    private static boolean in(int v, int low, int high) {
        return v >= low && v <= high;
    }

    private int find(int number) {
        status = number;
        return -1000010 - number;
    }

    private int well(int answer) {
        status = 0;
        return answer;
    }

    int row(int row, int lane, int n) {
        if (!in(row, 0, 7) || !in(lane, 0, 2) || n > 40) {
            return BAD;
        }
        if (n < 0) {
            return find(4);
        }
        rows.put(row, new Row(new int[] {8, 16, 32}[lane], n));
        return well(n);
    }

    int set(int row, int i, int v) {
        if (!in(row, 0, 7)) {
            return BAD;
        }
        Row r = rows.get(row);
        if (r == null) {
            return find(1);
        }
        if (!in(i, 0, r.items.length - 1)) {
            return find(2);
        }
        int away = 32 - r.bits;
        r.items[i] = v << away >> away;
        return well(r.items[i]);
    }

    int copy(int a, int i, int b, int j, int n) {
        if (!in(a, 0, 7) || !in(b, 0, 7)) {
            return BAD;
        }
        Row r = rows.get(a);
        Row s = rows.get(b);
        if (r == null || s == null) {
            return find(1);
        }
        if (r.bits != s.bits) {
            return find(5);
        }
        if (i < 0 || j < 0 || n < 0 || (long) i + n > r.items.length || (long) j + n > s.items.length) {
            return find(2);
        }
        int[] ahead = r.items.clone();
        for (int k = 0; k < n; k++) {
            s.items[j + k] = ahead[i + k];
        }
        return well(n);
    }

    int drop(int row) {
        if (!in(row, 0, 7)) {
            return BAD;
        }
        Row r = rows.remove(row);
        return r == null ? find(1) : well(r.items.length);
    }

    int feed(long w, int n) {
        if (!in(n, 1, 8)) {
            return BAD;
        }
        if (tape.length() + n > 400) {
            return FULL;
        }
        for (int i = n - 1; i >= 0; i--) {
            tape.append((char) (w >> 8 * i & 255));
        }
        return tape.length();
    }

    private record Token(String text, int place) {
    }

    private List<Token> tokens = List.of();
    private int next = 0;

    private Token peek() {
        return tokens.get(next);
    }

    private void word(String... words) {
        if (!Arrays.asList(words).contains(peek().text)) {
            throw new Fault(peek().place, 1);
        }
        next++;
    }

    private int number(int low, int high) {
        if (!peek().text.matches("[0-9]{1,3}")) {
            throw new Fault(peek().place, 1);
        }
        int v = Integer.parseInt(peek().text);
        if (!in(v, low, high)) {
            throw new Fault(peek().place, 2);
        }
        next++;
        return v;
    }

    private Garden parse(String text) {
        tokens = new ArrayList<>();
        next = 0;
        Matcher m = Pattern.compile("[a-z]+|[0-9]+|[ \\n]+|.", Pattern.DOTALL).matcher(text);
        while (m.find()) {
            if (!m.group().matches("[ \\n]+")) {
                tokens.add(new Token(m.group(), m.start()));
            }
        }
        tokens.add(new Token("(end)", text.length()));
        List<Integer> ground = new ArrayList<>();
        word("ground");
        for (int q = 0; q < 20; q++) {
            ground.add(number(0, 60));
        }
        word(";");
        int from = -1;
        int to = -1;
        if (peek().text.equals("lake")) {
            word("lake");
            from = number(0, 19);
            to = number(from, 19);
            word(";");
        }
        List<Tree> trees = new ArrayList<>();
        List<Thing> things = new ArrayList<>();
        Garden g = new Garden(ground, from, to, trees, things, 0, false);
        while (peek().text.equals("tree")) {
            if (trees.size() == 6) {
                throw new Fault(peek().place, 3);
            }
            word("tree");
            String sort = peek().text;
            word("ash", "yew", "oak", "hedge", "false");
            int site = number(0, 19);
            if (g.treeAt(site) != NONE) {
                throw new Fault(tokens.get(next - 1).place, 2);
            }
            int high = number(1, 99);
            int grows = number(0, 9);
            word(";");
            trees.add(new Tree(sort, site, high, grows, 0, 0));
        }
        while (peek().text.equals("thing")) {
            if (things.size() == 6) {
                throw new Fault(peek().place, 3);
            }
            word("thing");
            int site = number(0, 19);
            int high = number(1, 99);
            String want = peek().text;
            word("show", "hide");
            word(";");
            things.add(new Thing(site, high, want.equals("show")));
        }
        word("(end)");
        return g;
    }

    int garden() {
        String text = tape.toString();
        tape.setLength(0);
        try {
            g = parse(text);
        } catch (Fault f) {
            fault = f.number;
            return -1000100 - f.place;
        }
        days.clear();
        return g.trees.size();
    }

    int fault() {
        return fault;
    }

    private void day(Garden then) {
        days.addLast(g);
        if (days.size() > 24) {
            days.removeFirst();
        }
        g = then;
    }

    int years(int n) {
        if (g == null) {
            return STATE;
        }
        if (!in(n, 1, 99)) {
            return BAD;
        }
        if (g.year + n > 999) {
            return FULL;
        }
        day(g.in(g.year + n, g.winter));
        return g.year;
    }

    int winter(int is) {
        if (g == null) {
            return STATE;
        }
        if (!in(is, 0, 1)) {
            return BAD;
        }
        int was = g.winter ? 1 : 0;
        day(g.in(g.year, is == 1));
        return was;
    }

    private boolean noTree(int t) {
        return g == null || !in(t, 0, g.trees.size() - 1);
    }

    int clip(int tree, int n) {
        if (noTree(tree) || !in(n, 1, 99)) {
            return BAD;
        }
        if (!g.trees.get(tree).mayBeCut()) {
            return STATE;
        }
        day(g.with(tree, g.trees.get(tree).cutBy(n)));
        return g.height(tree);
    }

    int move(int tree, int site) {
        if (noTree(tree) || !in(site, 1, 18)) {
            return BAD;
        }
        if (g.treeAt(site) != NONE) {
            return STATE;
        }
        int was = g.trees.get(tree).site;
        day(g.with(tree, g.trees.get(tree).at(site)));
        return was;
    }

    int level(int row, int i) {
        if (g == null) {
            return STATE;
        }
        if (!in(row, 0, 7)) {
            return BAD;
        }
        Row r = rows.get(row);
        if (r == null) {
            return find(1);
        }
        if (i < 0 || (long) i + 20 > r.items.length) {
            return find(2);
        }
        List<Integer> ground = new ArrayList<>();
        for (int q = 0; q < 20; q++) {
            if (!in(r.items[i + q], 0, 60)) {
                return BAD;
            }
            ground.add(r.items[i + q]);
        }
        day(g.on(ground));
        return well(1);
    }

    int undo() {
        if (days.isEmpty()) {
            return STATE;
        }
        g = days.removeLast();
        return days.size();
    }

    int tree(int tree, int what) {
        if (noTree(tree) || !in(what, 0, 3)) {
            return BAD;
        }
        Tree t = g.trees.get(tree);
        return new int[] {t.site, g.height(tree), t.cut, t.grows}[what];
    }

    int site(int site, int what) {
        if (g == null) {
            return STATE;
        }
        if (!in(site, 0, 19) || !in(what, 0, 2)) {
            return BAD;
        }
        return new int[] {g.ground.get(site), g.bar(site), g.treeAt(site)}[what];
    }

    int seen(int site, int eye) {
        if (g == null) {
            return STATE;
        }
        return in(site, 0, 18) && in(eye, 0, 30) ? g.seen(site, eye) : BAD;
    }

    int doubled(int eye) {
        if (g == null) {
            return STATE;
        }
        if (!in(eye, 0, 30)) {
            return BAD;
        }
        int bits = 0;
        for (int i = 0; i < g.things.size(); i++) {
            bits |= g.doubled(eye, g.things.get(i)) ? 1 << i : 0;
        }
        return bits;
    }

    int met(int eyes) {
        if (g == null) {
            return STATE;
        }
        return eyes < 0 ? BAD : g.metFor(eyes);
    }

    int cut(int eyes, int a, int b, int what) {
        if (eyes < 0 || noTree(a) || noTree(b) || a == b || !in(what, 0, 1)
                || !g.trees.get(a).mayBeCut() || !g.trees.get(b).mayBeCut()) {
            return BAD;
        }
        int highA = g.height(a);
        int highB = g.height(b);
        for (int sum = 0; sum <= highA + highB; sum++) {
            for (int x = Math.max(0, sum - highB); x <= Math.min(sum, highA); x++) {
                Garden then = g.with(a, g.trees.get(a).cutBy(cutFor(a, x)));
                then = then.with(b, g.trees.get(b).cutBy(cutFor(b, sum - x)));
                if (then.metFor(eyes) == eyes) {
                    return what == 0 ? sum : x;
                }
            }
        }
        return NONE;
    }

    /** A tree whose height is 0 yet, or already, is cut by no more. */
    private int cutFor(int t, int by) {
        return g.height(t) == 0 ? 0 : by;
    }

    int plant(int eyes, int sort, int grows, int y) {
        if (g == null) {
            return STATE;
        }
        if (eyes < 0 || !in(sort, 0, 4) || !in(grows, 0, 9) || !in(y, 0, 99)) {
            return BAD;
        }
        if (g.trees.size() == 6) {
            return NONE;
        }
        String name = new String[] {"ash", "yew", "oak", "hedge", "false"}[sort];
        for (int site = 1; site <= 18; site++) {
            if (g.treeAt(site) == NONE) {
                List<Tree> others = new ArrayList<>(g.trees);
                // Only what grows from now on counts of it: none of the years gone by.
                boolean stays = sort == 3 || sort == 4;
                int high = stays ? 5 : Math.min(99, 5 + grows * y);
                others.add(new Tree(name, site, high, 0, 0, 0));
                if (g.with(others).in(g.year + y, false).metFor(eyes) == eyes) {
                    return site;
                }
            }
        }
        return NONE;
    }

    int moon(int eye) {
        if (g == null) {
            return STATE;
        }
        if (!in(eye, 0, 30)) {
            return BAD;
        }
        int nights = 0;
        for (int n = 0; n <= 12; n++) {
            nights |= g.sees(0, eye, new Thing(19, 20 + 3 * n, true)) ? 1 << n : 0;
        }
        return nights;
    }

    private int places(int eye, int things, boolean just) {
        if (g == null) {
            return STATE;
        }
        if (!in(eye, 0, 30) || !in(things, 0, (1 << g.things.size()) - 1)) {
            return BAD;
        }
        int bits = 0;
        for (int site = 0; site <= 18; site++) {
            int seen = g.seen(site, eye);
            bits |= (just ? seen == things : (seen & things) == 0) ? 1 << site : 0;
        }
        return bits;
    }

    int path(int eye, int things) {
        return places(eye, things, false);
    }

    int picture(int eye, int things) {
        return places(eye, things, true);
    }

    int rival(int eye, int turns) {
        if (g == null) {
            return STATE;
        }
        if (!in(eye, 0, 30) || !in(turns, 1, 9)) {
            return BAD;
        }
        Garden then = g;
        int inches = 0;
        for (int t = 1; t <= turns; t++) {
            Thing tower = new Thing(18, 10 * t, true);
            if (then.sees(0, eye, tower)) {
                Garden hidden = null;
                for (int more = 1; more <= 99 && hidden == null; more++) {
                    for (int k = 0; k < then.trees.size() && hidden == null; k++) {
                        Tree tree = then.trees.get(k);
                        boolean may = tree.mayBeCut() && in(tree.site, 1, 17)
                                && !(tree.sort.equals("ash") && then.winter) && then.height(k) + more <= 99;
                        Garden other = then.with(k, tree.more(more));
                        if (may && !other.sees(0, eye, tower)) {
                            hidden = other;
                            inches += more;
                        }
                    }
                }
                if (hidden == null) {
                    return NONE;
                }
                then = hidden;
            }
        }
        return inches;
    }

    int image(int k) {
        if (!in(k, 0, 1)) {
            return BAD;
        }
        if (g == null) {
            return STATE;
        }
        images[k] = g;
        return 1;
    }

    int restore(int k) {
        if (!in(k, 0, 1)) {
            return BAD;
        }
        if (images[k] == null) {
            return STATE;
        }
        g = images[k];
        days.clear();
        return 1;
    }

    private interface Asked {
        int size();

        int mark();
    }

    private class Lent implements Asked {
        final int t;

        Lent(int t) {
            this.t = t;
        }

        public int size() {
            trace.add(10);
            return g.height(t);
        }

        public int mark() {
            trace.add(20);
            return t;
        }
    }

    private class Ash extends Lent {
        Ash(int t) {
            super(t);
        }

        @Override
        public int size() {
            trace.add(11);
            return super.size() + mark();
        }

        @Override
        public int mark() {
            trace.add(21);
            return super.mark() + g.trees.get(t).site;
        }
    }

    private final class Oak extends Ash {
        Oak(int t) {
            super(t);
        }

        @Override
        public int size() {
            trace.add(12);
            return 0 - super.size();
        }

        @Override
        public int mark() {
            trace.add(24);
            return super.mark() + 1000;
        }
    }

    private final class Yew extends Lent {
        Yew(int t) {
            super(t);
        }

        @Override
        public int mark() {
            trace.add(22);
            return super.mark() - size();
        }
    }

    private class Hedge extends Lent {
        Hedge(int t) {
            super(t);
        }

        @Override
        public int size() {
            trace.add(13);
            return super.size() - 100;
        }

        @Override
        public int mark() {
            trace.add(23);
            return super.mark() + g.trees.get(t).grows;
        }
    }

    private final class False extends Hedge {
        False(int t) {
            super(t);
        }

        @Override
        public int size() {
            trace.add(14);
            return 2 * super.size();
        }
    }

    private Asked asked(int t) {
        switch (kind(t)) {
            case 1:
                return new Ash(t);
            case 2:
                return new Oak(t);
            case 3:
                return new Yew(t);
            case 4:
                return new Hedge(t);
            default:
                return new False(t);
        }
    }

    int kind(int tree) {
        return noTree(tree) ? BAD
                : 1 + Arrays.asList("ash", "oak", "yew", "hedge", "false").indexOf(g.trees.get(tree).sort);
    }

    int as(int tree, int kind) {
        if (noTree(tree) || !in(kind, 0, 5)) {
            return BAD;
        }
        Asked a = asked(tree);
        boolean such = new boolean[] {a instanceof Lent, a instanceof Ash, a instanceof Oak, a instanceof Yew,
            a instanceof Hedge, a instanceof False}[kind];
        return such ? well(tree) : find(3);
    }

    int ask(int tree, int what) {
        if (noTree(tree) || !in(what, 0, 1)) {
            return BAD;
        }
        trace = new ArrayList<>();
        return what == 0 ? asked(tree).size() : asked(tree).mark();
    }

    int trace(int i) {
        return in(i, 0, Math.min(16, trace.size()) - 1) ? trace.get(i) : NONE;
    }

    int count(int what) {
        if (!in(what, 0, 6)) {
            return BAD;
        }
        if (g == null) {
            return new int[] {rows.size(), 0, 0, 0, 0, 0, tape.length()}[what];
        }
        return new int[] {rows.size(), g.trees.size(), g.things.size(), g.year, days.size(), g.winter ? 1 : 0,
            tape.length()}[what];
    }

    int status() {
        return status;
    }
}
