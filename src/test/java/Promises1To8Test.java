/** Promises 1 to 8, sentence by sentence: a new object, rows, the tape, its garden, its faults. */
public final class Promises1To8Test {
    private static final int LOW = Integer.MIN_VALUE, HIGH = Integer.MAX_VALUE;

    public static void main(String[] args) throws Exception {
        newObject();
        rowIsMade();
        rowBad();
        rowSize();
        itemIsSet();
        setBad();
        setNull();
        setPlace();
        itemsAreCopied();
        copyBad();
        copyNull();
        copyStore();
        copyPlace();
        rowIsDropped();
        dropBad();
        dropNull();
        bytesCome();
        feedBad();
        feedFull();
        tapeIsRead();
        placeOfFault();
        latestFault();
        noFault();
        Told.end("Promises1To8Test", "Promise 1", "Promise 2", "Promise 3", "Promise 4", "Promise 5",
                "Promise 6", "Promise 7", "Promise 8");
    }

    private static void newObject() {
        Told.at(1, "No GARDEN.");
        OneBench x = new OneBench();
        for (int what = 0; what <= 6; what++) {
            Told.is("count(" + what + ")", x.count(what), 0);
        }
        Told.is("years", x.years(1), Due.STATE);
        Told.is("site", x.site(0, 0), Due.STATE);
        Told.is("seen", x.seen(0, 0), Due.STATE);
        Told.is("met", x.met(1), Due.STATE);
        Told.is("image", x.image(0), Due.STATE);
        Told.is("restore", x.restore(0), Due.STATE);
        Told.is("undo", x.undo(), Due.STATE);
        Told.is("no tree", x.tree(0, 0), Due.BAD);
        Told.is("no tree", x.clip(0, 1), Due.BAD);
        Told.is("no tree", x.move(0, 1), Due.BAD);
        Told.is("no tree", x.cut(1, 0, 1, 0), Due.BAD);
        Told.is("no tree", x.kind(0), Due.BAD);
        Told.is("no tree", x.as(0, 0), Due.BAD);
        Told.is("no tree", x.ask(0, 0), Due.BAD);
        Told.is("fault", x.fault(), 0);
        Told.is("status", x.status(), 0);
        Told.is("trace", x.trace(0), Due.NONE);
        Due.read(x, Due.FLAT);
        Told.is("another new object has none, too", new OneBench().site(0, 0), Due.STATE);
    }

    private static void rowIsMade() {
        Told.at(2, "A ROW of a LANE with n ITEMS, in place of what is there: n.");
        OneBench x = new OneBench();
        for (int row = 0; row < 8; row++) {
            Told.is("empty row " + row, x.row(row, row % 3, 0), 0);
            Told.is("no item of none", x.set(row, 0, 1), Due.PLACE);
        }
        for (int lane = 0; lane < 3; lane++) {
            Told.is("forty of lane " + lane, x.row(7, lane, 40), 40);
            Told.is("its last", x.set(7, 39, 300), new int[] {44, 300, 300}[lane]);
        }
        Told.is("fewer, in place of those", x.row(7, 1, 3), 3);
        Told.is("item 3 is gone", x.set(7, 3, 1), Due.PLACE);
        Told.is("of another lane", x.set(7, 2, 70000), 4464);
        Due.read(x, Due.FLAT);
        x.row(7, 2, 40);
        Told.is("items are 0 again", x.level(7, 20) + x.site(19, 0), 1);
        x.row(6, 0, 20);
        x.set(6, 0, 60);
        Told.is("another row stays", x.level(6, 0) + x.site(0, 0), 61);
        Told.is("count of rows", x.count(0), 8);
    }

    private static void rowBad() {
        Told.at(2, "BAD: ROW, LANE, n above 40;");
        Look.Call row = (x, n) -> x.row(n[0], n[1], n[2]);
        Look.refuses(Due.BAD, "row", row, new int[] {0, 0, 40}, 0, -1, 8, LOW, HIGH);
        Look.refuses(Due.BAD, "row", row, new int[] {7, 2, 0}, 1, -1, 3, LOW, HIGH);
        Look.refuses(Due.BAD, "row", row, new int[] {0, 1, 40}, 2, 41, HIGH);
        Look.staysBy("row(8, 0, -1): BAD ahead of SIZE", x -> x.row(8, 0, -1), Due.BAD);
        Look.staysBy("row(0, 3, -1): BAD ahead of SIZE", x -> x.row(0, 3, -1), Due.BAD);
    }

    private static void rowSize() {
        Told.at(2, "SIZE.");
        Look.Call row = (x, n) -> x.row(n[0], n[1], n[2]);
        Look.refuses(Due.SIZE, "row", row, new int[] {0, 0, 0}, 2, -1, -2, LOW);
        Look.refuses(Due.SIZE, "row", row, new int[] {7, 2, 0}, 2, -1, LOW);
    }

    private static void itemIsSet() {
        Told.at(3, "ITEM i becomes v, its lowest bits, as many as the LANE has (read with their sign): what it is then.");
        OneBench x = new OneBench();
        x.row(0, 0, 1);
        x.row(1, 1, 1);
        x.row(2, 2, 40);
        int[] values = {0, 1, -1, 127, 128, 255, 256, -128, -129, 32767, 32768, 65535, 65536, -32768, -32769,
            0x12345678, 0x80000080, LOW, HIGH};
        int[] bytes = {0, 1, -1, 127, -128, -1, 0, -128, 127, -1, 0, -1, 0, 0, -1, 0x78, -128, 0, -1};
        int[] shorts = {0, 1, -1, 127, 128, 255, 256, -128, -129, 32767, -32768, -1, 0, -32768, 32767,
            0x5678, 128, 0, -1};
        for (int k = 0; k < values.length; k++) {
            Told.is("a byte of " + values[k], x.set(0, 0, values[k]), bytes[k]);
            Told.is("a short of " + values[k], x.set(1, 0, values[k]), shorts[k]);
            Told.is("an int of " + values[k], x.set(2, k, values[k]), values[k]);
        }
        Due.read(x, Due.FLAT);
        x.row(3, 0, 20);
        x.set(3, 4, 256 + 17);
        x.set(3, 19, 60 - 512);
        Told.is("it stays so", x.level(3, 0) + x.site(4, 0) + x.site(19, 0) + x.site(5, 0), 1 + 17 + 60);
    }

    private static void setBad() {
        Told.at(3, "BAD: ROW;");
        Look.refuses(Due.BAD, "set", (x, n) -> x.set(n[0], n[1], n[2]), new int[] {0, 0, 9}, 0, -1, 8, LOW, HIGH);
        Look.staysBy("BAD ahead of NULL, PLACE", x -> x.set(8, -1, 0), Due.BAD);
    }

    private static void setNull() {
        Told.at(3, "NULL;");
        Look.refuses(Due.NULL, "set", (x, n) -> x.set(n[0], n[1], n[2]), new int[] {0, 0, 9}, 0, 3, 7);
        Look.staysBy("NULL ahead of PLACE", x -> x.set(3, -1, 0), Due.NULL);
    }

    private static void setPlace() {
        Told.at(3, "PLACE.");
        Look.Call set = (x, n) -> x.set(n[0], n[1], n[2]);
        Look.refuses(Due.PLACE, "set", set, new int[] {0, 0, 9}, 1, -1, 20, LOW, HIGH);
        Look.refuses(Due.PLACE, "set", set, new int[] {1, 39, 9}, 1, -1, 40, LOW, HIGH);
        Look.refuses(Due.PLACE, "set", set, new int[] {0, 0, 9}, 0, 2);
    }

    private static OneBench twoRows() {
        OneBench x = Due.bench(Due.FLAT);
        x.row(0, 1, 40);
        x.row(1, 1, 20);
        for (int i = 0; i < 40; i++) {
            x.set(0, i, i + 1);
        }
        return x;
    }

    private static void grounds(String what, OneBench x, int row, int from, int... due) {
        x.level(row, from);
        for (int q = 0; q < due.length; q++) {
            Told.is(what + ", item " + q, x.site(q, 0), due[q]);
        }
    }

    private static void itemsAreCopied() {
        Told.at(4, "n ITEMS of a from i on come to b from j on, as they were ahead: n.");
        OneBench x = twoRows();
        Told.is("none", x.copy(0, 40, 1, 20, 0), 0);
        Told.is("none", x.copy(0, 0, 1, 0, 0), 0);
        grounds("none came", x, 1, 0, 0, 0, 0);
        Told.is("three", x.copy(0, 37, 1, 1, 3), 3);
        grounds("three came", x, 1, 0, 0, 38, 39, 40, 0, 0);
        Told.is("all of b", x.copy(0, 20, 1, 0, 20), 20);
        grounds("all came", x, 1, 0, 21, 22, 23);
        Told.is("the last is there", x.site(19, 0), 40);
        Told.is("all of a on itself", x.copy(0, 0, 0, 0, 40), 40);
        Told.is("further on, in the same row", x.copy(0, 0, 0, 2, 38), 38);
        grounds("further on", x, 0, 0, 1, 2, 1, 2, 3, 4, 5, 6, 7, 8, 9, 10, 11, 12);
        Told.is("back, in the same row", x.copy(0, 2, 0, 0, 38), 38);
        grounds("back", x, 0, 0, 1, 2, 3, 4, 5, 6, 7, 8, 9, 10, 11, 12);
        grounds("b stays", x, 1, 0, 21, 22, 23);
        OneBench ints = new OneBench();
        ints.row(3, 2, 1);
        ints.row(4, 2, 1);
        ints.set(3, 0, -7);
        Told.is("what is no height of ground", ints.copy(3, 0, 4, 0, 1), 1);
    }

    private static void copyBad() {
        Told.at(4, "BAD: ROWS;");
        Look.Call copy = (x, n) -> x.copy(n[0], n[1], n[2], n[3], n[4]);
        Look.refuses(Due.BAD, "copy", copy, new int[] {0, 0, 0, 1, 3}, 0, -1, 8, LOW, HIGH);
        Look.refuses(Due.BAD, "copy", copy, new int[] {0, 0, 0, 1, 3}, 2, -1, 8, LOW, HIGH);
        Look.staysBy("BAD of b ahead of NULL of a", x -> x.copy(5, 0, 8, 0, 1), Due.BAD);
        Look.staysBy("BAD of a ahead of NULL of b", x -> x.copy(8, 0, 5, 0, 1), Due.BAD);
    }

    private static void copyNull() {
        Told.at(4, "NULL;");
        Look.Call copy = (x, n) -> x.copy(n[0], n[1], n[2], n[3], n[4]);
        Look.refuses(Due.NULL, "copy", copy, new int[] {0, 0, 0, 1, 3}, 0, 3, 7);
        Look.refuses(Due.NULL, "copy", copy, new int[] {0, 0, 0, 1, 3}, 2, 3, 7);
        Look.staysBy("both, and none to copy", x -> x.copy(3, 0, 3, 0, 0), Due.NULL);
        Look.staysBy("ahead of PLACE", x -> x.copy(0, 99, 3, 0, -1), Due.NULL);
    }

    private static void copyStore() {
        Told.at(4, "STORE;");
        Look.Call copy = (x, n) -> x.copy(n[0], n[1], n[2], n[3], n[4]);
        Look.refuses(Due.STORE, "copy", copy, new int[] {0, 0, 0, 0, 0}, 2, 1, 2);
        Look.refuses(Due.STORE, "copy", copy, new int[] {1, 0, 1, 1, 9}, 0, 0, 2);
        Look.staysBy("ahead of PLACE", x -> x.copy(0, -1, 1, -1, -1), Due.STORE);
    }

    private static void copyPlace() {
        Told.at(4, "PLACE (i, j, n below 0, or beyond an end).");
        Look.Call copy = (x, n) -> x.copy(n[0], n[1], n[2], n[3], n[4]);
        Look.refuses(Due.PLACE, "copy", copy, new int[] {1, 0, 1, 5, 20}, 1, -1, 21, 40, 41, LOW, HIGH);
        Look.refuses(Due.PLACE, "copy", copy, new int[] {1, 5, 1, 20, 20}, 3, -1, 21, 40, 41, LOW, HIGH);
        Look.refuses(Due.PLACE, "copy", copy, new int[] {1, 3, 1, 0, 37}, 4, -1, 38, LOW, HIGH);
        Look.refuses(Due.PLACE, "copy", copy, new int[] {1, 0, 1, 3, 37}, 4, -1, 38, LOW, HIGH);
        Look.refuses(Due.PLACE, "copy", copy, new int[] {0, 20, 0, 20, 0}, 1, -1, 21);
        Look.refuses(Due.PLACE, "copy", copy, new int[] {0, 20, 0, 20, 0}, 3, -1, 21);
        Look.refuses(Due.PLACE, "copy", copy, new int[] {0, 20, 0, 20, 0}, 4, -1, 1);
        Look.refuses(Due.PLACE, "copy", copy, new int[] {2, 0, 2, 0, 0}, 4, 1);
    }

    private static void rowIsDropped() {
        Told.at(5, "A ROW is missing from now on: how many ITEMS it had.");
        OneBench x = new OneBench();
        x.row(0, 0, 0);
        x.row(3, 1, 17);
        x.row(7, 2, 40);
        Told.is("none", x.drop(0), 0);
        Told.is("forty", x.drop(7), 40);
        Told.is("one is there", x.count(0), 1);
        Told.is("missing", x.set(7, 0, 1), Due.NULL);
        Told.is("missing", x.copy(7, 0, 3, 0, 0), Due.NULL);
        Told.is("seventeen", x.drop(3), 17);
        Told.is("none is there", x.count(0), 0);
        x.row(3, 2, 2);
        Told.is("there again", x.set(3, 1, 5), 5);
    }

    private static void dropBad() {
        Told.at(5, "BAD;");
        Look.refuses(Due.BAD, "drop", (x, n) -> x.drop(n[0]), new int[] {0}, 0, -1, 8, LOW, HIGH);
    }

    private static void dropNull() {
        Told.at(5, "NULL.");
        Look.refuses(Due.NULL, "drop", (x, n) -> x.drop(n[0]), new int[] {1}, 0, 3, 4, 7);
    }

    private static String padded(String text, int n) {
        return text + " ".repeat((n - text.length() % n) % n);
    }

    private static void bytesCome() {
        Told.at(6, "The lowest n bytes of w (1 to 8), the highest of them first, come behind the tape: how many it has.");
        for (int n = 1; n <= 8; n++) {
            OneBench x = new OneBench();
            String text = padded(Due.FLAT + "tree oak 17 9 1; thing 12 10 show;", n);
            int bytes = 0;
            for (int at = 0; at + n <= text.length(); at += n) {
                long w = -1;
                for (int k = 0; k < n; k++) {
                    w = w << 8 | text.charAt(at + k);
                }
                bytes += n;
                Told.is(n + " at once", x.feed(w, n), bytes);
            }
            Told.is("read, fed " + n + " at once", x.garden(), 1);
            Told.is("as told", x.tree(0, 0), 17);
        }
        OneBench y = new OneBench();
        Told.is("one of eight", y.feed(0x67726f756e643b20L, 1), 1);
        Told.is("a blank came", y.garden(), -1000101);
        Told.is("of eight", y.feed(0x2020202067726f75L, 8), 8);
        Told.is("the highest first", y.garden(), -1000104);
        Told.is("bytes above 127 are read with no other meaning", y.feed(0xe7L, 1), 1);
        Told.is("none of a name", y.garden(), -1000100);
    }

    private static void feedBad() {
        Told.at(6, "BAD: n;");
        Look.refuses(Due.BAD, "feed", (x, n) -> x.feed(n[0], n[1]), new int[] {32, 8}, 1, 0, 9, -1, LOW, HIGH);
        OneBench x = new OneBench();
        for (int i = 0; i < 50; i++) {
            x.feed(0, 8);
        }
        Told.is("ahead of FULL", x.feed(0, 9), Due.BAD);
        Told.is("ahead of FULL", x.feed(0, 0), Due.BAD);
    }

    private static void feedFull() {
        Told.at(6, "FULL: none comes.");
        for (int free = 0; free < 8; free++) {
            OneBench x = new OneBench();
            for (int i = 0; i < 49; i++) {
                x.feed(0x2020202020202020L, 8);
            }
            x.feed(0x2020202020202020L, 8 - free);
            Told.is("one too many for " + free, x.feed(-1L, free + 1), Due.FULL);
            Told.is("eight for " + free, x.feed(-1L, 8), Due.FULL);
            Told.is("none came", x.count(6), 400 - free);
            if (free > 0) {
                Told.is("just so many", x.feed(0x2020202020202020L, free), 400);
            }
            Told.is("none of those came", x.garden(), -1000500);
            Told.is("room again", x.feed(-1L, 8), 8);
        }
    }

    private static void tapeIsRead() {
        Told.at(7, "The tape, empty then, is read: how many TREES there are.");
        OneBench x = new OneBench();
        StringBuilder text = new StringBuilder(Due.FLAT);
        for (int trees = 0; trees <= 6; trees++) {
            Due.feed(x, text.toString());
            Told.is("bytes ahead", x.count(6), text.length());
            Told.is("trees", x.garden(), trees);
            Told.is("trees that are there", x.count(1), trees);
            Told.is("the tape is empty", x.count(6), 0);
            text.append("tree yew ").append(trees).append(" 1 0;");
        }
        Told.is("an empty tape is no garden", x.garden(), -1000100);
        Told.is("the old one stands", x.count(1), 6);
    }

    private static void placeOfFault() {
        Told.at(7, "-1000100 less the place of a FAULT: all but the tape, and what fault() tells, stays.");
        String tree = "tree oak 1 1 1;";
        String[] ahead = {"", "", "ground", Due.FLAT + "tree", Due.FLAT + "lake 5 ", Due.FLAT + tree + "tree ash ",
            Due.FLAT + "lake 0 19;" + tree + "thing 5 6 show;thing 7 8 "};
        String[] rest = {"", "x", "", "", "4;", "1 9 9;", "hidden;"};
        int[] faults = {1, 1, 1, 1, 2, 2, 1};
        for (int k = 0; k < faults.length; k++) {
            OneBench x = Look.rich();
            OneBench twin = Look.rich();
            x.garden();
            twin.garden();
            String text = ahead[k] + rest[k];
            Due.feed(x, text);
            Told.is("garden of " + text, x.garden(), -1000100 - ahead[k].length());
            Told.is("the tape is empty", x.count(6), 0);
            Told.is("fault", x.fault(), faults[k]);
            Due.read(twin, faults[k] == 1 ? "no" : "ground 99");
            Told.is("status stays", x.status(), twin.status());
            Told.isSo("all else stays", Look.through(x).equals(Look.through(twin)));
        }
        OneBench none = new OneBench();
        Due.read(none, "grond");
        Told.is("no garden yet", none.site(0, 0), Due.STATE);
        OneBench whole = new OneBench();
        for (int i = 0; i < 50; i++) {
            whole.feed(0x2020202020202020L, 8);
        }
        Told.is("the last place that there is", whole.garden(), -1000500);
    }

    private static void latestFault() {
        Told.at(8, "The number of the latest FAULT;");
        OneBench x = new OneBench();
        Due.read(x, "ground 61");
        Told.is("a number", x.fault(), 2);
        Due.read(x, "ground ground");
        Told.is("a word", x.fault(), 1);
        StringBuilder text = new StringBuilder(Due.FLAT);
        for (int t = 0; t < 7; t++) {
            text.append("tree yew ").append(t).append(" 1 0;");
        }
        Due.read(x, text.toString());
        Told.is("no room", x.fault(), 3);
        Due.read(x, Due.FLAT);
        Told.is("a garden without one leaves it", x.fault(), 3);
        x.garden();
        Told.is("the latest", x.fault(), 1);
    }

    private static void noFault() {
        Told.at(8, "0 before one.");
        OneBench x = new OneBench();
        Told.is("at first", x.fault(), 0);
        Due.read(x, Due.FLAT);
        Told.is("behind a garden without one", x.fault(), 0);
        x.years(100);
        x.drop(0);
        Told.is("a refusal, a finding is none", x.fault(), 0);
    }
}
