import java.util.Arrays;

/** A garden along a line, seen from one bench: see README.md and the document. */
public final class OneBench {
    public static final int NONE = -1000000, BAD = -1000001, STATE = -1000002, FULL = -1000003;

    private static final int FOUND = -1000010;
    private static final int FAULTED = -1000100;
    private static final int NULL = 1, PLACE = 2, KIND = 3, SIZE = 4, STORE = 5;

    private static final int ROWS = 8, MOST_ITEMS = 40, MOST_BYTES = 400;
    private static final int BYTES = 0, SHORTS = 1, INTS = 2;

    private static final int SITES = 20, LAST_SITE = 19, MOST_GROUND = 60;
    private static final int MOST_TREES = 6, MOST_THINGS = 6, MOST_HIGH = 99, MOST_GROWS = 9;
    private static final int MOST_EYE = 30, EYES = 31;
    private static final int MOST_AT_ONCE = 99, MOST_YEAR = 999;

    private static final int TREE = 0, ASH = 1, OAK = 2, YEW = 3, HEDGE = 4, FALSE_TREE = 5;
    private static final int SORT_HEDGE = 3, SORT_FALSE = 4, PLANTED_HIGH = 5;

    private static final int NIGHTS = 13, MOON_SITE = 19, FIRST_MOON = 20, MOON_STEP = 3;
    private static final int TOWER_SITE = 18, TOWER_STEP = 10, MOST_TURNS = 9;
    private static final int TOO_HIGH = 1000;

    private static final int MOST_DAYS = 24, IMAGES = 2;
    private static final int MOST_TRACE = 16, MOST_ASK_DEPTH = 8;

    private final Row[] rows = new Row[ROWS];
    private final Reader reader = new Reader();
    private final Sight sight = new Sight();
    private final Trace asked = new Trace();
    /** The garden that stands, and the one that the next text is read into. */
    private Garden now = new Garden();
    private Garden spare = new Garden();
    private boolean stands = false;
    /** A ring: each entry is the garden as it was ahead of a day. */
    private final Garden[] days = new Garden[MOST_DAYS];
    private int nextDay = 0;
    private int daysKept = 0;
    private final Garden[] images = new Garden[IMAGES];
    private final boolean[] imageKept = new boolean[IMAGES];
    private int latestFault = 0;
    private int latestFinding = 0;

    public OneBench() {
        for (int i = 0; i < ROWS; i++) {
            rows[i] = new Row();
        }
        for (int i = 0; i < MOST_DAYS; i++) {
            days[i] = new Garden();
        }
        for (int i = 0; i < IMAGES; i++) {
            images[i] = new Garden();
        }
    }

    // ---- rows

    public int row(int row, int lane, int n) {
        if (!isRow(row) || lane < BYTES || lane > INTS || n > MOST_ITEMS) {
            return BAD;
        }
        if (n < 0) {
            return found(SIZE);
        }
        rows[row].begin(lane, n);
        return unfound(n);
    }

    public int set(int row, int i, int v) {
        if (!isRow(row)) {
            return BAD;
        }
        Row r = rows[row];
        if (!r.there) {
            return found(NULL);
        }
        if (i < 0 || i >= r.items) {
            return found(PLACE);
        }
        r.item[i] = r.cutToLane(v);
        return unfound(r.item[i]);
    }

    public int copy(int a, int i, int b, int j, int n) {
        if (!isRow(a) || !isRow(b)) {
            return BAD;
        }
        Row from = rows[a];
        Row to = rows[b];
        if (!from.there || !to.there) {
            return found(NULL);
        }
        if (from.lane != to.lane) {
            return found(STORE);
        }
        if (!from.has(i, n) || !to.has(j, n)) {
            return found(PLACE);
        }
        System.arraycopy(from.item, i, to.item, j, n);
        return unfound(n);
    }

    public int drop(int row) {
        if (!isRow(row)) {
            return BAD;
        }
        Row r = rows[row];
        if (!r.there) {
            return found(NULL);
        }
        r.there = false;
        return unfound(r.items);
    }

    // ---- gardens, days

    public int feed(long w, int n) {
        if (n < 1 || n > 8) {
            return BAD;
        }
        if (reader.bytes + n > MOST_BYTES) {
            return FULL;
        }
        for (int i = n - 1; i >= 0; i--) {
            reader.take((byte) (w >>> (8 * i)));
        }
        return reader.bytes;
    }

    public int garden() {
        boolean read = reader.readInto(spare);
        reader.bytes = 0;
        if (!read) {
            latestFault = reader.fault;
            return FAULTED - reader.place;
        }
        Garden old = now;
        now = spare;
        spare = old;
        stands = true;
        daysKept = 0;
        return now.trees;
    }

    public int fault() {
        return latestFault;
    }

    public int years(int n) {
        if (!stands) {
            return STATE;
        }
        if (n < 1 || n > MOST_AT_ONCE) {
            return BAD;
        }
        if (now.year + n > MOST_YEAR) {
            return FULL;
        }
        keepDay();
        now.year += n;
        return now.year;
    }

    public int winter(int is) {
        if (!stands) {
            return STATE;
        }
        if (is < 0 || is > 1) {
            return BAD;
        }
        keepDay();
        int was = now.winter ? 1 : 0;
        now.winter = is == 1;
        return was;
    }

    public int clip(int tree, int n) {
        if (!now.hasTree(tree) || n < 1 || n > MOST_AT_ONCE) {
            return BAD;
        }
        if (!now.mayBeCut(tree)) {
            return STATE;
        }
        keepDay();
        now.cuts[tree] += n;
        return now.heightNow(tree);
    }

    public int move(int tree, int site) {
        if (!now.hasTree(tree) || !isInnerSite(site)) {
            return BAD;
        }
        if (now.treeAt(site) != NONE) {
            return STATE;
        }
        keepDay();
        int was = now.sites[tree];
        now.sites[tree] = site;
        return was;
    }

    public int level(int row, int i) {
        if (!stands) {
            return STATE;
        }
        if (!isRow(row)) {
            return BAD;
        }
        Row r = rows[row];
        if (!r.there) {
            return found(NULL);
        }
        if (!r.has(i, SITES)) {
            return found(PLACE);
        }
        for (int q = 0; q < SITES; q++) {
            if (r.item[i + q] < 0 || r.item[i + q] > MOST_GROUND) {
                return BAD;
            }
        }
        keepDay();
        System.arraycopy(r.item, i, now.ground, 0, SITES);
        return unfound(1);
    }

    public int undo() {
        if (daysKept == 0) {
            return STATE;
        }
        nextDay = nextDay == 0 ? MOST_DAYS - 1 : nextDay - 1;
        now.becomes(days[nextDay]);
        daysKept--;
        return daysKept;
    }

    public int tree(int tree, int what) {
        if (!now.hasTree(tree)) {
            return BAD;
        }
        switch (what) {
            case 0:
                return now.sites[tree];
            case 1:
                return now.heightNow(tree);
            case 2:
                return now.cuts[tree];
            case 3:
                return now.grows[tree];
            default:
                return BAD;
        }
    }

    public int site(int site, int what) {
        if (!stands) {
            return STATE;
        }
        if (site < 0 || site > LAST_SITE) {
            return BAD;
        }
        switch (what) {
            case 0:
                return now.ground[site];
            case 1:
                sight.lookNow(now);
                return sight.bar[site];
            case 2:
                return now.treeAt(site);
            default:
                return BAD;
        }
    }

    // ---- seen

    public int seen(int site, int eye) {
        if (!stands) {
            return STATE;
        }
        if (site < 0 || site >= LAST_SITE || !isEye(eye)) {
            return BAD;
        }
        sight.lookNow(now);
        return sight.thingsFrom(now, site, eye);
    }

    public int doubled(int eye) {
        if (!stands) {
            return STATE;
        }
        if (!isEye(eye)) {
            return BAD;
        }
        sight.lookNow(now);
        int bits = 0;
        for (int i = 0; i < now.things; i++) {
            if (sight.isDoubled(now, i, eye)) {
                bits |= 1 << i;
            }
        }
        return bits;
    }

    public int met(int eyes) {
        if (!stands) {
            return STATE;
        }
        if (eyes < 0) {
            return BAD;
        }
        sight.lookNow(now);
        int bits = 0;
        for (int eye = 0; eye < EYES; eye++) {
            if (isIn(eyes, eye) && sight.wantsAreMet(now, eye)) {
                bits |= 1 << eye;
            }
        }
        return bits;
    }

    // The more is cut, the more is seen. So the least cuts that let all see what is to
    // show are the only ones to try: any more could only uncover what is to hide.
    public int cut(int eyes, int a, int b, int what) {
        if (eyes < 0 || what < 0 || what > 1 || a == b || !now.mayBeCut(a) || !now.mayBeCut(b)) {
            return BAD;
        }
        sight.lookNow(now);
        int x = leastCut(eyes, a);
        int y = leastCut(eyes, b);
        if (x > now.heightNow(a) || y > now.heightNow(b)) {
            return NONE;
        }
        sight.raise(now.sites[a], -x);
        sight.raise(now.sites[b], -y);
        if (!sight.wantsAreMetForAll(now, eyes)) {
            return NONE;
        }
        return what == 0 ? x + y : x;
    }

    public int plant(int eyes, int sort, int grows, int y) {
        if (!stands) {
            return STATE;
        }
        if (eyes < 0 || sort < 0 || sort > SORT_FALSE || grows < 0 || grows > MOST_GROWS
                || y < 0 || y > MOST_AT_ONCE) {
            return BAD;
        }
        if (now.trees >= MOST_TREES) {
            return NONE;
        }
        boolean stays = sort == SORT_HEDGE || sort == SORT_FALSE;
        int high = stays ? PLANTED_HIGH : Math.min(MOST_HIGH, PLANTED_HIGH + grows * y);
        sight.look(now, now.year + y, false);
        for (int site = 1; site < LAST_SITE; site++) {
            if (now.treeAt(site) == NONE) {
                sight.raise(site, high);
                boolean met = sight.wantsAreMetForAll(now, eyes);
                sight.raise(site, -high);
                if (met) {
                    return site;
                }
            }
        }
        return NONE;
    }

    public int moon(int eye) {
        if (!stands) {
            return STATE;
        }
        if (!isEye(eye)) {
            return BAD;
        }
        sight.lookNow(now);
        int from = now.ground[0] + eye;
        int nights = 0;
        for (int n = 0; n < NIGHTS; n++) {
            int top = now.ground[MOON_SITE] + FIRST_MOON + MOON_STEP * n;
            if (sight.isFree(from, 0, top, MOON_SITE)) {
                nights |= 1 << n;
            }
        }
        return nights;
    }

    public int path(int eye, int things) {
        if (!stands) {
            return STATE;
        }
        if (!isEye(eye) || !now.hasThings(things)) {
            return BAD;
        }
        return placesSeeing(eye, things, 0);
    }

    public int picture(int eye, int things) {
        if (!stands) {
            return STATE;
        }
        if (!isEye(eye) || !now.hasThings(things)) {
            return BAD;
        }
        return placesSeeing(eye, (1 << MOST_THINGS) - 1, things);
    }

    public int rival(int eye, int turns) {
        if (!stands) {
            return STATE;
        }
        if (!isEye(eye) || turns < 1 || turns > MOST_TURNS) {
            return BAD;
        }
        sight.lookNow(now);
        int from = now.ground[0] + eye;
        int inches = 0;
        for (int turn = 1; turn <= turns; turn++) {
            int top = now.ground[TOWER_SITE] + TOWER_STEP * turn;
            if (sight.isFree(from, 0, top, TOWER_SITE)) {
                int tree = leastHider(from, top);
                if (tree == NONE) {
                    return NONE;
                }
                int more = hidingBy(tree, from, top);
                sight.raise(now.sites[tree], more);
                inches += more;
            }
        }
        return inches;
    }

    public int image(int k) {
        if (k < 0 || k >= IMAGES) {
            return BAD;
        }
        if (!stands) {
            return STATE;
        }
        images[k].becomes(now);
        imageKept[k] = true;
        return 1;
    }

    public int restore(int k) {
        if (k < 0 || k >= IMAGES) {
            return BAD;
        }
        if (!imageKept[k]) {
            return STATE;
        }
        now.becomes(images[k]);
        daysKept = 0;
        return 1;
    }

    // ---- asked

    public int kind(int tree) {
        return now.hasTree(tree) ? now.kinds[tree] : BAD;
    }

    public int as(int tree, int kind) {
        if (!now.hasTree(tree) || kind < TREE || kind > FALSE_TREE) {
            return BAD;
        }
        return isOfKind(now.kinds[tree], kind) ? unfound(tree) : found(KIND);
    }

    public int ask(int tree, int what) {
        if (!now.hasTree(tree) || what < 0 || what > 1) {
            return BAD;
        }
        asked.length = 0;
        int body = what == 0 ? bodyOfSize(now.kinds[tree]) : bodyOfMark(now.kinds[tree]);
        return bodyGives(now, asked, tree, body, 0);
    }

    public int trace(int i) {
        return i >= 0 && i < asked.length ? asked.bodies[i] : NONE;
    }

    public int count(int what) {
        switch (what) {
            case 0:
                return rowsThere();
            case 1:
                return now.trees;
            case 2:
                return now.things;
            case 3:
                return now.year;
            case 4:
                return daysKept;
            case 5:
                return now.winter ? 1 : 0;
            case 6:
                return reader.bytes;
            default:
                return BAD;
        }
    }

    public int status() {
        return latestFinding;
    }

    // ---- what the calls share

    private int found(int finding) {
        latestFinding = finding;
        return FOUND - finding;
    }

    private int unfound(int answer) {
        latestFinding = 0;
        return answer;
    }

    private static boolean isRow(int row) {
        return row >= 0 && row < ROWS;
    }

    private static boolean isEye(int eye) {
        return eye >= 0 && eye <= MOST_EYE;
    }

    private static boolean isInnerSite(int site) {
        return site > 0 && site < LAST_SITE;
    }

    private static boolean isIn(int bits, int bit) {
        return (bits >> bit & 1) != 0;
    }

    private int rowsThere() {
        int there = 0;
        for (int i = 0; i < ROWS; i++) {
            if (rows[i].there) {
                there++;
            }
        }
        return there;
    }

    /** Called ahead of the change that makes the day. */
    private void keepDay() {
        days[nextDay].becomes(now);
        nextDay = nextDay == MOST_DAYS - 1 ? 0 : nextDay + 1;
        daysKept = Math.min(MOST_DAYS, daysKept + 1);
    }

    /** The sites from which, of the things asked for, just those wanted are seen. */
    private int placesSeeing(int eye, int ofThings, int wanted) {
        sight.lookNow(now);
        int places = 0;
        for (int site = 0; site < LAST_SITE; site++) {
            if ((sight.thingsFrom(now, site, eye) & ofThings) == wanted) {
                places |= 1 << site;
            }
        }
        return places;
    }

    /** How much of a tree must go that it does not stand between an eye and a thing to show. */
    private int leastCut(int eyes, int tree) {
        int q = now.sites[tree];
        int least = 0;
        for (int i = 0; i < now.things; i++) {
            int c = now.thingSites[i];
            if (now.toShow[i] && q > 0 && q < c) {
                for (int eye = 0; eye < EYES; eye++) {
                    if (isIn(eyes, eye)) {
                        int stop = Sight.leastStop(now.ground[0] + eye, now.topOf(i), c, q);
                        least = Math.max(least, sight.bar[q] - stop + 1);
                    }
                }
            }
        }
        return least;
    }

    /** The first tree that hides the tower by the least growth; NONE. */
    private int leastHider(int from, int top) {
        int best = NONE;
        int least = TOO_HIGH;
        for (int t = 0; t < now.trees; t++) {
            int more = hidingBy(t, from, top);
            if (more < least) {
                least = more;
                best = t;
            }
        }
        return best;
    }

    /** By how much a tree must be higher to hide the tower; TOO_HIGH where it cannot. */
    private int hidingBy(int tree, int from, int top) {
        int q = now.sites[tree];
        boolean bare = now.winter && now.kinds[tree] == ASH;
        if (q < 1 || q >= TOWER_SITE || bare || !now.mayBeCut(tree)) {
            return TOO_HIGH;
        }
        int stop = Sight.leastStop(from, top, TOWER_SITE, q);
        return stop - now.ground[q] > MOST_HIGH ? TOO_HIGH : stop - sight.bar[q];
    }

    private static boolean isOfKind(int kind, int asked) {
        return asked == TREE || asked == kind
                || asked == ASH && kind == OAK || asked == HEDGE && kind == FALSE_TREE;
    }

    private static int bodyOfSize(int kind) {
        switch (kind) {
            case ASH:
                return 11;
            case OAK:
                return 12;
            case HEDGE:
                return 13;
            case FALSE_TREE:
                return 14;
            default:
                return 10;
        }
    }

    private static int bodyOfMark(int kind) {
        switch (kind) {
            case ASH:
                return 21;
            case OAK:
                return 24;
            case YEW:
                return 22;
            case HEDGE:
            case FALSE_TREE:
                return 23;
            default:
                return 20;
        }
    }

    /** The trace tells the order in which bodies begin, so each sum runs from left to right. */
    private static int bodyGives(Garden g, Trace trace, int tree, int body, int depth) {
        if (depth > MOST_ASK_DEPTH || !g.hasTree(tree)) {
            return 0;
        }
        trace.note(body);
        int deeper = depth + 1;
        switch (body) {
            case 10:
                return g.heightNow(tree);
            case 11:
                return bodyGives(g, trace, tree, 10, deeper)
                        + bodyGives(g, trace, tree, bodyOfMark(g.kinds[tree]), deeper);
            case 12:
                return -bodyGives(g, trace, tree, 11, deeper);
            case 13:
                return bodyGives(g, trace, tree, 10, deeper) - 100;
            case 14:
                return 2 * bodyGives(g, trace, tree, 13, deeper);
            case 20:
                return tree;
            case 21:
                return bodyGives(g, trace, tree, 20, deeper) + g.sites[tree];
            case 22:
                return bodyGives(g, trace, tree, 20, deeper)
                        - bodyGives(g, trace, tree, bodyOfSize(g.kinds[tree]), deeper);
            case 23:
                return bodyGives(g, trace, tree, 20, deeper) + g.grows[tree];
            case 24:
                return bodyGives(g, trace, tree, 21, deeper) + 1000;
            default:
                return 0;
        }
    }

    /** The bodies that the latest ask began, in their order. */
    private static final class Trace {
        private final int[] bodies = new int[MOST_TRACE];
        private int length = 0;

        private void note(int body) {
            if (length < MOST_TRACE) {
                bodies[length] = body;
                length++;
            }
        }
    }

    /** A row of numbers of one lane, or a missing one. */
    private static final class Row {
        private boolean there = false;
        private int lane = BYTES;
        private int items = 0;
        private final int[] item = new int[MOST_ITEMS];

        private void begin(int newLane, int n) {
            there = true;
            lane = newLane;
            items = n;
            Arrays.fill(item, 0);
        }

        private int cutToLane(int v) {
            if (lane == BYTES) {
                return (byte) v;
            }
            return lane == SHORTS ? (short) v : v;
        }

        /** Written so that no sum can overflow. */
        private boolean has(int from, int n) {
            return from >= 0 && n >= 0 && n <= items && from <= items - n;
        }
    }

    /** All that a day may change and an image keeps. */
    private static final class Garden {
        private final int[] ground = new int[SITES];
        /** No lake while the first site of it is behind the last. */
        private int lakeFrom = 0;
        private int lakeTo = NONE;
        private int trees = 0;
        private final int[] kinds = new int[MOST_TREES];
        private final int[] sites = new int[MOST_TREES];
        private final int[] highs = new int[MOST_TREES];
        private final int[] grows = new int[MOST_TREES];
        private final int[] cuts = new int[MOST_TREES];
        private int things = 0;
        private final int[] thingSites = new int[MOST_THINGS];
        private final int[] thingHighs = new int[MOST_THINGS];
        private final boolean[] toShow = new boolean[MOST_THINGS];
        private int year = 0;
        private boolean winter = false;

        private void becomes(Garden other) {
            System.arraycopy(other.ground, 0, ground, 0, SITES);
            lakeFrom = other.lakeFrom;
            lakeTo = other.lakeTo;
            trees = other.trees;
            System.arraycopy(other.kinds, 0, kinds, 0, MOST_TREES);
            System.arraycopy(other.sites, 0, sites, 0, MOST_TREES);
            System.arraycopy(other.highs, 0, highs, 0, MOST_TREES);
            System.arraycopy(other.grows, 0, grows, 0, MOST_TREES);
            System.arraycopy(other.cuts, 0, cuts, 0, MOST_TREES);
            things = other.things;
            System.arraycopy(other.thingSites, 0, thingSites, 0, MOST_THINGS);
            System.arraycopy(other.thingHighs, 0, thingHighs, 0, MOST_THINGS);
            System.arraycopy(other.toShow, 0, toShow, 0, MOST_THINGS);
            year = other.year;
            winter = other.winter;
        }

        private void clear() {
            Arrays.fill(ground, 0);
            lakeFrom = 0;
            lakeTo = NONE;
            trees = 0;
            things = 0;
            year = 0;
            winter = false;
        }

        private void addTree(int newKind, int atSite, int newHigh, int newGrows) {
            if (trees < MOST_TREES) {
                kinds[trees] = newKind;
                sites[trees] = atSite;
                highs[trees] = newHigh;
                grows[trees] = newGrows;
                cuts[trees] = 0;
                trees++;
            }
        }

        private void addThing(int atSite, int newHigh, boolean show) {
            if (things < MOST_THINGS) {
                thingSites[things] = atSite;
                thingHighs[things] = newHigh;
                toShow[things] = show;
                things++;
            }
        }

        private boolean hasTree(int t) {
            return t >= 0 && t < trees;
        }

        private boolean hasThings(int bits) {
            return bits >= 0 && bits < 1 << things;
        }

        private boolean mayBeCut(int t) {
            return hasTree(t) && kinds[t] != YEW && kinds[t] != FALSE_TREE;
        }

        private int treeAt(int q) {
            for (int t = 0; t < trees; t++) {
                if (sites[t] == q) {
                    return t;
                }
            }
            return NONE;
        }

        private int topOf(int i) {
            return ground[thingSites[i]] + thingHighs[i];
        }

        private int heightNow(int t) {
            return heightIn(t, year, winter);
        }

        private int heightIn(int t, int inYear, boolean inWinter) {
            if (!hasTree(t) || inWinter && kinds[t] == ASH) {
                return 0;
            }
            boolean stays = kinds[t] == HEDGE || kinds[t] == FALSE_TREE;
            int grown = stays ? highs[t] : highs[t] + grows[t] * inYear;
            return Math.max(0, Math.min(MOST_HIGH, grown) - cuts[t]);
        }
    }

    /** How high each site bars the view, as it is or as it is foretold, and what is seen then. */
    private static final class Sight {
        private final int[] bar = new int[SITES];

        private void lookNow(Garden g) {
            look(g, g.year, g.winter);
        }

        private void look(Garden g, int inYear, boolean inWinter) {
            System.arraycopy(g.ground, 0, bar, 0, SITES);
            for (int t = 0; t < g.trees; t++) {
                raise(g.sites[t], g.heightIn(t, inYear, inWinter));
            }
        }

        private void raise(int q, int by) {
            if (q >= 0 && q < SITES) {
                bar[q] += by;
            }
        }

        private boolean isFree(int from, int a, int to, int c) {
            for (int q = Math.max(0, a + 1); q < c && q < SITES; q++) {
                if ((to - from) * (q - a) + from * (c - a) <= bar[q] * (c - a)) {
                    return false;
                }
            }
            return true;
        }

        /** The least bar of site q that stops the line from site 0 to site c. */
        private static int leastStop(int from, int to, int c, int q) {
            if (c < 1) {
                return 0;
            }
            return ((to - from) * q + from * c + c - 1) / c;
        }

        private boolean isSeen(Garden g, int i, int site, int eye) {
            int c = g.thingSites[i];
            return site < c && isFree(g.ground[site] + eye, site, g.topOf(i), c);
        }

        private int thingsFrom(Garden g, int site, int eye) {
            int bits = 0;
            for (int i = 0; i < g.things; i++) {
                if (isSeen(g, i, site, eye)) {
                    bits |= 1 << i;
                }
            }
            return bits;
        }

        private boolean isDoubled(Garden g, int i, int eye) {
            if (!isSeen(g, i, 0, eye)) {
                return false;
            }
            int c = g.thingSites[i];
            for (int m = Math.max(1, g.lakeFrom); m <= g.lakeTo && m < c; m++) {
                if (isFree(g.ground[0] + eye, 0, g.ground[m], m)
                        && isFree(g.ground[m], m, g.topOf(i), c)) {
                    return true;
                }
            }
            return false;
        }

        private boolean wantsAreMet(Garden g, int eye) {
            for (int i = 0; i < g.things; i++) {
                if (isSeen(g, i, 0, eye) != g.toShow[i]) {
                    return false;
                }
            }
            return true;
        }

        private boolean wantsAreMetForAll(Garden g, int eyes) {
            for (int eye = 0; eye < EYES; eye++) {
                if (isIn(eyes, eye) && !wantsAreMet(g, eye)) {
                    return false;
                }
            }
            return true;
        }
    }

    /** The tape, and how it is read, one token at a time. */
    private static final class Reader {
        private static final int END = 0, NAME = 1, NUMBER = 2, SIGN = 3, NO_TOKEN = 4;
        private static final int CANNOT_STAND = 1, NOT_AS_TOLD = 2, NO_ROOM = 3;
        private static final int MOST_FIGURES = 3;

        private final byte[] tape = new byte[MOST_BYTES];
        private int bytes = 0;
        private int start = 0;
        private int behind = 0;
        private int token = END;
        private int value = 0;
        private int fault = 0;
        private int place = 0;

        private void take(byte b) {
            if (bytes < MOST_BYTES) {
                tape[bytes] = b;
                bytes++;
            }
        }

        /** False, and fault and place tell why, where the tape is no garden. */
        private boolean readInto(Garden g) {
            g.clear();
            behind = 0;
            advance();
            if (!readGround(g)) {
                return false;
            }
            if (isWord("lake") && !readLake(g)) {
                return false;
            }
            for (int t = 0; t <= MOST_TREES && isWord("tree"); t++) {
                if (!readTree(g)) {
                    return false;
                }
            }
            for (int i = 0; i <= MOST_THINGS && isWord("thing"); i++) {
                if (!readThing(g)) {
                    return false;
                }
            }
            return token == END || refuse(CANNOT_STAND);
        }

        private boolean readGround(Garden g) {
            if (!passWord("ground")) {
                return false;
            }
            for (int q = 0; q < SITES; q++) {
                if (!isNumber(0, MOST_GROUND)) {
                    return false;
                }
                g.ground[q] = pass();
            }
            return passSign();
        }

        private boolean readLake(Garden g) {
            advance();
            if (!isNumber(0, LAST_SITE)) {
                return false;
            }
            g.lakeFrom = pass();
            if (!isNumber(g.lakeFrom, LAST_SITE)) {
                return false;
            }
            g.lakeTo = pass();
            return passSign();
        }

        private boolean readTree(Garden g) {
            if (g.trees >= MOST_TREES) {
                return refuse(NO_ROOM);
            }
            advance();
            int newKind = sortTold();
            if (newKind == NONE) {
                return refuse(CANNOT_STAND);
            }
            advance();
            if (!isNumber(0, LAST_SITE)) {
                return false;
            }
            if (g.treeAt(value) != NONE) {
                return refuse(NOT_AS_TOLD);
            }
            int atSite = pass();
            if (!isNumber(1, MOST_HIGH)) {
                return false;
            }
            int newHigh = pass();
            if (!isNumber(0, MOST_GROWS)) {
                return false;
            }
            g.addTree(newKind, atSite, newHigh, pass());
            return passSign();
        }

        private boolean readThing(Garden g) {
            if (g.things >= MOST_THINGS) {
                return refuse(NO_ROOM);
            }
            advance();
            if (!isNumber(0, LAST_SITE)) {
                return false;
            }
            int atSite = pass();
            if (!isNumber(1, MOST_HIGH)) {
                return false;
            }
            int newHigh = pass();
            boolean show = isWord("show");
            if (!show && !isWord("hide")) {
                return refuse(CANNOT_STAND);
            }
            advance();
            g.addThing(atSite, newHigh, show);
            return passSign();
        }

        private int sortTold() {
            if (isWord("ash")) {
                return ASH;
            }
            if (isWord("yew")) {
                return YEW;
            }
            if (isWord("oak")) {
                return OAK;
            }
            if (isWord("hedge")) {
                return HEDGE;
            }
            return isWord("false") ? FALSE_TREE : NONE;
        }

        private boolean refuse(int number) {
            fault = number;
            place = start;
            return false;
        }

        private boolean isNumber(int low, int high) {
            if (token != NUMBER) {
                return refuse(CANNOT_STAND);
            }
            return value >= low && value <= high || refuse(NOT_AS_TOLD);
        }

        private boolean passSign() {
            if (token != SIGN) {
                return refuse(CANNOT_STAND);
            }
            advance();
            return true;
        }

        private boolean passWord(String word) {
            if (!isWord(word)) {
                return refuse(CANNOT_STAND);
            }
            advance();
            return true;
        }

        /** The value of the token, behind which it goes on. */
        private int pass() {
            int v = value;
            advance();
            return v;
        }

        private boolean isWord(String word) {
            if (token != NAME || behind - start != word.length()) {
                return false;
            }
            for (int i = 0; i < word.length(); i++) {
                if (tape[start + i] != word.charAt(i)) {
                    return false;
                }
            }
            return true;
        }

        private void advance() {
            while (behind < bytes && isBlank(tape[behind])) {
                behind++;
            }
            start = behind;
            value = 0;
            if (behind >= bytes) {
                token = END;
            } else if (isLetter(tape[behind])) {
                passLetters();
            } else if (isFigure(tape[behind])) {
                passFigures();
            } else {
                token = tape[behind] == ';' ? SIGN : NO_TOKEN;
                behind++;
            }
        }

        private void passLetters() {
            token = NAME;
            while (behind < bytes && isLetter(tape[behind])) {
                behind++;
            }
        }

        private void passFigures() {
            while (behind < bytes && isFigure(tape[behind])) {
                if (behind - start < MOST_FIGURES) {
                    value = value * 10 + tape[behind] - '0';
                }
                behind++;
            }
            token = behind - start > MOST_FIGURES ? NO_TOKEN : NUMBER;
        }

        private static boolean isBlank(byte b) {
            return b == 32 || b == 10;
        }

        private static boolean isLetter(byte b) {
            return b >= 'a' && b <= 'z';
        }

        private static boolean isFigure(byte b) {
            return b >= '0' && b <= '9';
        }
    }
}
