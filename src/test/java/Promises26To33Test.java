/** Promises 26 to 33, sentence by sentence: images, kinds, asks, the trace, counts, the status. */
public final class Promises26To33Test {
    private static final int LOW = Integer.MIN_VALUE, HIGH = Integer.MAX_VALUE;
    private static final String FIVE = Due.FLAT + "tree ash 2 9 1;tree oak 4 9 1;tree yew 6 9 1;tree hedge 8 9 1;"
            + "tree false 10 9 1;";

    public static void main(String[] args) throws Exception {
        imageIsKept();
        imageBad();
        imageState();
        gardenIsRestored();
        restoreBad();
        restoreState();
        kindIsTold();
        kindBad();
        treeIsTaken();
        asBad();
        asKind();
        treeIsAsked();
        askBad();
        traceIsEmptyAhead();
        numberOfTrace();
        traceNone();
        counts();
        countBad();
        statusOfLatest();
        statusOf0();
        Told.end("Promises26To33Test", "Promise 26", "Promise 27", "Promise 28", "Promise 29", "Promise 30",
                "Promise 31", "Promise 32", "Promise 33");
    }

    private static void imageIsKept() {
        Told.at(26, "An IMAGE (0, 1) is kept of the GARDEN: 1.");
        OneBench x = Due.bench(FIVE + "thing 12 9 show;");
        Told.is("image 0", x.image(0), 1);
        x.years(4);
        Told.is("image 1", x.image(1), 1);
        Told.is("it is no day", x.count(4), 1);
        Told.is("the day can be undone", x.undo(), 0);
        x.clip(0, 5);
        x.move(1, 18);
        x.winter(1);
        Told.is("image 0 as it was", x.restore(0) + x.tree(0, 2) + x.tree(1, 0) + x.count(5), 1 + 0 + 4 + 0);
        x.years(9);
        Told.is("image 0 in place of the one before", x.image(0), 1);
        Told.is("image 1 as it was", x.restore(1) + x.count(3), 1 + 4);
        Told.is("image 0 as it is now", x.restore(0) + x.count(3), 1 + 9);
        Told.is("it is kept again and again", x.restore(0) + x.restore(0), 2);
        Told.is("of a garden without trees", Due.bench(Due.FLAT).image(1), 1);
    }

    private static void imageBad() {
        Told.at(26, "BAD;");
        Look.refuses(Due.BAD, "image", (x, n) -> x.image(n[0]), new int[] {0}, 0, -1, 2, LOW, HIGH);
        Look.staysByWithout("image(2), ahead of STATE", x -> x.image(2), Due.BAD);
        Look.staysByWithout("image(-1), ahead of STATE", x -> x.image(-1), Due.BAD);
    }

    private static void imageState() {
        Told.at(26, "STATE: no GARDEN.");
        Look.needsGarden("image", (x, n) -> x.image(n[0]), new int[] {0}, new int[] {1});
        OneBench x = new OneBench();
        Due.read(x, "ground");
        Told.is("behind a fault", x.image(0), Due.STATE);
        Told.is("none was kept by it", x.restore(0), Due.STATE);
    }

    private static void gardenIsRestored() {
        Told.at(27, "The GARDEN is as an IMAGE kept it (no DAY can be undone then): 1.");
        OneBench x = Look.rich();
        OneBench twin = Look.rich();
        x.undo();
        twin.restore(0);
        x.winter(0);
        x.clip(3, 3);
        x.move(4, 9);
        x.level(0, 0);
        x.years(8);
        Told.is("days ahead", x.count(4), 8);
        Told.is("restore", x.restore(0), 1);
        Told.is("no day", x.count(4), 0);
        Told.is("no day", x.undo(), Due.STATE);
        Told.isSo("as it was", Look.at(x).equals(Look.at(twin)));
        x.years(1);
        Told.is("days go on", x.undo(), 0);
        x.garden();
        Told.is("another garden", Due.read(x, Due.FLAT), 0);
        Told.is("in place of it", x.restore(0), 1);
        Told.is("its trees", x.count(1), 6);
        Told.is("its things", x.count(2), 3);
        Told.is("its year", x.count(3), 3);
        Told.is("its winter", x.count(5), 1);
        Told.is("its water", x.doubled(30), twin.doubled(30));
        Told.is("rows stay", x.count(0), 3);
        anotherIsRestored();
    }

    /** Two gardens that are unlike in all that is told of them. */
    private static void anotherIsRestored() {
        String[] texts = {
            "ground 1 1 1 1 1 1 1 1 1 1 1 1 1 1 1 1 1 1 1 1;lake 5 5;tree oak 3 9 2;tree false 4 8 0;"
                + "thing 9 9 hide;thing 12 90 show;",
            Due.FLAT + "lake 9 12;tree hedge 8 7 3;tree ash 2 6 4;tree yew 6 5 1;thing 13 90 show;thing 10 3 hide;"
                + "thing 8 80 show;"};
        for (int k = 0; k < 2; k++) {
            OneBench x = Due.bench(texts[k]);
            x.image(k);
            Due.read(x, texts[1 - k]);
            x.image(1 - k);
            Told.isSo("as read", Look.at(x).equals(Look.at(Due.bench(texts[1 - k]))));
            Told.is("the first", x.restore(k), 1);
            Told.isSo("as it was", Look.at(x).equals(Look.at(Due.bench(texts[k]))));
            x.years(5);
            Told.is("the second", x.restore(1 - k), 1);
            Told.isSo("as that was", Look.at(x).equals(Look.at(Due.bench(texts[1 - k]))));
            x.years(5);
            Told.is("undone", x.undo(), 0);
            Told.isSo("as that was", Look.at(x).equals(Look.at(Due.bench(texts[1 - k]))));
        }
    }

    private static void restoreBad() {
        Told.at(27, "BAD;");
        Look.refuses(Due.BAD, "restore", (x, n) -> x.restore(n[0]), new int[] {0}, 0, -1, 2, LOW, HIGH);
        Look.staysByWithout("restore(2), ahead of STATE", x -> x.restore(2), Due.BAD);
    }

    private static void restoreState() {
        Told.at(27, "STATE: none was kept.");
        Look.refuses(Due.STATE, "restore", (x, n) -> x.restore(n[0]), new int[] {0}, 0, 1);
        Look.needsGarden("restore", (x, n) -> x.restore(n[0]), new int[] {0}, new int[] {1});
        OneBench x = Due.bench(FIVE);
        x.image(1);
        Told.is("the other one", x.restore(0), Due.STATE);
    }

    private static void kindIsTold() {
        Told.at(28, "The KIND of a TREE, as told (1 to 5).");
        OneBench x = Due.bench(FIVE);
        int[] due = {1, 2, 3, 4, 5};
        for (int t = 0; t < 5; t++) {
            Told.is("kind of " + t, x.kind(t), due[t]);
            x.as(t, 0);
            x.as(t, 1);
            Told.is("taken as another it stays", x.kind(t), due[t]);
        }
    }

    private static void kindBad() {
        Told.at(28, "BAD.");
        Look.refuses(Due.BAD, "kind", (x, n) -> x.kind(n[0]), new int[] {5}, 0, -1, 6, LOW, HIGH);
        Look.staysByWithout("there is no tree", x -> x.kind(0), Due.BAD);
        Told.is("one of five", Due.bench(FIVE).kind(5), Due.BAD);
    }

    private static void treeIsTaken() {
        Told.at(29, "A TREE is taken as one of a KIND (0 .. 5): the TREE's number.");
        OneBench x = Due.bench(FIVE);
        for (int t = 0; t < 5; t++) {
            Told.is("as a tree", x.as(t, 0), t);
            Told.is("as what it is", x.as(t, t + 1), t);
            Told.is("status", x.status(), 0);
        }
        Told.is("an oak as an ash", x.as(1, 1), 1);
        Told.is("a false one as a hedge", x.as(4, 4), 4);
    }

    private static void asBad() {
        Told.at(29, "BAD;");
        Look.refuses(Due.BAD, "as", (x, n) -> x.as(n[0], n[1]), new int[] {5, 0}, 0, -1, 6, LOW, HIGH);
        Look.refuses(Due.BAD, "as", (x, n) -> x.as(n[0], n[1]), new int[] {4, 5}, 1, -1, 6, LOW, HIGH);
        Look.staysByWithout("there is no tree", x -> x.as(0, 0), Due.BAD);
    }

    private static void asKind() {
        Told.at(29, "KIND: it is no such one.");
        Look.refuses(Due.KIND, "as", (x, n) -> x.as(n[0], n[1]), new int[] {0, 1}, 1, 2, 3, 4, 5);
        Look.refuses(Due.KIND, "as", (x, n) -> x.as(n[0], n[1]), new int[] {1, 2}, 1, 3, 4, 5);
        Look.refuses(Due.KIND, "as", (x, n) -> x.as(n[0], n[1]), new int[] {2, 3}, 1, 1, 2, 4, 5);
        Look.refuses(Due.KIND, "as", (x, n) -> x.as(n[0], n[1]), new int[] {3, 4}, 1, 1, 2, 3, 5);
        Look.refuses(Due.KIND, "as", (x, n) -> x.as(n[0], n[1]), new int[] {4, 5}, 1, 1, 2, 3);
    }

    private static void treeIsAsked() {
        Told.at(30, "An ASK (0, 1) of a TREE.");
        OneBench x = Due.bench(FIVE);
        int[] sizes = {9 + 0 + 2, -(9 + 1 + 4 + 1000), 9, 9 - 100, 2 * (9 - 100)};
        int[] marks = {0 + 2, 1 + 4 + 1000, 2 - 9, 3 + 1, 4 + 1};
        for (int t = 0; t < 5; t++) {
            Told.is("size of " + t, x.ask(t, 0), sizes[t]);
            Told.is("mark of " + t, x.ask(t, 1), marks[t]);
        }
        x.drop(0);
        Told.is("an ask leaves the status", x.ask(0, 0) + x.status(), 11 + 1);
    }

    private static void askBad() {
        Told.at(30, "BAD.");
        Look.refuses(Due.BAD, "ask", (x, n) -> x.ask(n[0], n[1]), new int[] {5, 0}, 0, -1, 6, LOW, HIGH);
        Look.refuses(Due.BAD, "ask", (x, n) -> x.ask(n[0], n[1]), new int[] {0, 1}, 1, -1, 2, LOW, HIGH);
        Look.staysByWithout("there is no tree", x -> x.ask(0, 0), Due.BAD);
    }

    private static void traceIsEmptyAhead() {
        Told.at(30, "THE TRACE is empty ahead of it (where that is refused it stays).");
        OneBench x = Due.bench(FIVE);
        x.ask(1, 0);
        Told.is("six", x.trace(5), 20);
        x.ask(2, 0);
        Told.is("one", x.trace(0), 10);
        Told.is("no more", x.trace(1), Due.NONE);
        x.ask(4, 0);
        int[][] refused = {{5, 0}, {-1, 0}, {0, 2}, {0, -1}, {LOW, HIGH}};
        for (int[] numbers : refused) {
            Told.is("refused", x.ask(numbers[0], numbers[1]), Due.BAD);
            Told.is("it stays", x.trace(0), 14);
            Told.is("it stays", x.trace(2), 10);
            Told.is("it stays", x.trace(3), Due.NONE);
        }
        Due.read(x, Due.FLAT);
        Told.is("no tree is there any more", x.ask(0, 0), Due.BAD);
        Told.is("it stays", x.trace(1), 13);
    }

    private static void numberOfTrace() {
        Told.at(31, "Number i of THE TRACE;");
        OneBench x = Due.bench(FIVE);
        x.ask(1, 0);
        int[] due = {12, 11, 10, 24, 21, 20};
        for (int i = 0; i < due.length; i++) {
            Told.is("number " + i, x.trace(i), due[i]);
        }
        Told.is("asked again it is the same", x.trace(3), 24);
    }

    private static void traceNone() {
        Told.at(31, "NONE.");
        OneBench x = Due.bench(FIVE);
        Told.is("ahead of an ask", x.trace(0), Due.NONE);
        x.ask(0, 1);
        for (int i : new int[] {2, 3, 15, 16, 17, -1, LOW, HIGH}) {
            Told.is("number " + i, x.trace(i), Due.NONE);
        }
        Told.is("without a garden", new OneBench().trace(0), Due.NONE);
    }

    private static void counts() {
        Told.at(32, "How many: 0 ROWS, 1 TREES, 2 THINGS, 3 YEAR, 4 DAYS that can be undone, 5 WINTER (1, 0), 6 bytes on the tape.");
        OneBench x = new OneBench();
        int[] none = {0, 0, 0, 0, 0, 0, 0};
        counted("at first", x, none);
        x.row(0, 0, 0);
        x.row(7, 2, 40);
        x.row(7, 1, 4);
        Due.read(x, FIVE + "thing 1 2 show;thing 1 2 show;thing 1 2 hide;");
        counted("read", x, 2, 5, 3, 0, 0, 0, 0);
        x.years(99);
        x.winter(1);
        x.winter(1);
        x.feed(0, 7);
        counted("changed", x, 2, 5, 3, 99, 3, 1, 7);
        x.drop(0);
        x.undo();
        x.undo();
        counted("undone", x, 1, 5, 3, 99, 1, 0, 7);
        x.garden();
        counted("a fault", x, 1, 5, 3, 99, 1, 0, 0);
        for (int i = 0; i < 40; i++) {
            x.winter(1);
        }
        counted("24 at most", x, 1, 5, 3, 99, 24, 1, 0);
        for (int i = 0; i < 50; i++) {
            x.feed(0, 8);
        }
        counted("400 at most", x, 1, 5, 3, 99, 24, 1, 400);
        x.garden();
        Due.read(x, Due.FLAT);
        counted("another garden", x, 1, 0, 0, 0, 0, 0, 0);
    }

    private static void counted(String when, OneBench x, int... due) {
        for (int what = 0; what < due.length; what++) {
            Told.is("count(" + what + ") " + when, x.count(what), due[what]);
        }
    }

    private static void countBad() {
        Told.at(32, "BAD.");
        Look.refuses(Due.BAD, "count", (x, n) -> x.count(n[0]), new int[] {6}, 0, -1, 7, LOW, HIGH);
        Look.staysByWithout("count(7)", x -> x.count(7), Due.BAD);
    }

    private static void statusOfLatest() {
        Told.at(33, "Of the latest call with a ROW, or as(), that was not BAD, STATE, FULL: the number of its FINDING;");
        OneBench x = Due.bench(FIVE);
        x.row(0, 0, 20);
        x.row(1, 1, 19);
        Told.is("row", x.row(0, 0, -1), Due.SIZE);
        Told.is("SIZE", x.status(), 4);
        notOfThese(x, 4);
        Told.is("set", x.set(5, 0, 0), Due.NULL);
        Told.is("NULL", x.status(), 1);
        Told.is("copy", x.copy(0, 0, 1, 0, 1), Due.STORE);
        Told.is("STORE", x.status(), 5);
        notOfThese(x, 5);
        Told.is("set", x.set(1, 19, 0), Due.PLACE);
        Told.is("PLACE", x.status(), 2);
        Told.is("drop", x.drop(5), Due.NULL);
        Told.is("NULL", x.status(), 1);
        Told.is("as", x.as(0, 4), Due.KIND);
        Told.is("KIND", x.status(), 3);
        notOfThese(x, 3);
        Told.is("level", x.level(1, 0), Due.PLACE);
        Told.is("PLACE", x.status(), 2);
        Told.is("level", x.level(5, 0), Due.NULL);
        Told.is("NULL", x.status(), 1);
        Told.is("asked again", x.status(), 1);
    }

    /** Calls that are BAD, STATE, FULL, and calls without a row: the status is that of an earlier one yet. */
    private static void notOfThese(OneBench x, int status) {
        int[] answers = {x.row(8, 0, 0), x.set(-1, 0, 0), x.copy(0, 0, 8, 0, 0), x.drop(9), x.level(8, 0), x.as(0, 6),
            x.as(9, 0)};
        for (int answer : answers) {
            Told.is("refused", answer, Due.BAD);
        }
        Told.is("behind BAD", x.status(), status);
        x.restore(0);
        x.clip(2, 1);
        x.move(0, 4);
        Told.is("behind STATE", x.status(), status);
        x.feed('g', 1);
        x.garden();
        x.fault();
        x.winter(0);
        x.undo();
        x.tree(0, 0);
        x.site(0, 0);
        x.kind(0);
        x.ask(0, 0);
        x.trace(0);
        x.count(0);
        x.met(1);
        x.image(1);
        x.restore(1);
        Told.is("behind calls without a row", x.status(), status);
    }

    private static int wellCall(OneBench x, int call) {
        switch (call) {
            case 0:
                return x.row(0, 0, 20);
            case 1:
                return x.set(0, 0, 0);
            case 2:
                return x.copy(0, 0, 0, 0, 1);
            case 3:
                return x.level(0, 0);
            case 4:
                return x.as(0, 0);
            default:
                return x.drop(0);
        }
    }

    private static void statusOf0() {
        Told.at(33, "0: it had none, or there was none.");
        OneBench x = new OneBench();
        Told.is("there was none", x.status(), 0);
        x.row(8, 0, 0);
        x.level(0, 0);
        x.as(0, 0);
        Told.is("there was none but refused ones", x.status(), 0);
        Due.read(x, FIVE);
        Told.is("nor by a garden", x.status(), 0);
        for (int call = 0; call < 6; call++) {
            x.row(0, 0, 20);
            x.drop(7);
            Told.is("NULL", x.status(), 1);
            Told.isSo("well", wellCall(x, call) >= 0);
            Told.is("it had none", x.status(), 0);
        }
        OneBench y = Due.bench(FIVE);
        y.row(0, 1, 20);
        y.set(0, 0, 61);
        Told.is("an item that is BAD", y.level(0, 0), Due.BAD);
        Told.is("there was no finding yet", y.status(), 0);
        y.drop(3);
        y.level(0, 0);
        Told.is("the finding is that of the drop", y.status(), 1);
    }
}
