/** Promises 2 to 5: row, set, copy, drop; and what status() tells of them (33). */
public final class RowsTest {
    public static void main(String[] args) {
        rows();
        sets();
        copies();
        drops();
        Due.end("RowsTest");
    }

    private static void rows() {
        OneBench x = new OneBench();
        Due.is("row(0, 0, 0)", x.row(0, 0, 0), 0);
        Due.is("row(7, 2, 40)", x.row(7, 2, 40), 40);
        Due.is("count(0)", x.count(0), 2);
        Due.is("row(-1, 0, 1)", x.row(-1, 0, 1), Due.BAD);
        Due.is("row(8, 0, 1)", x.row(8, 0, 1), Due.BAD);
        Due.is("row(0, -1, 1)", x.row(0, -1, 1), Due.BAD);
        Due.is("row(0, 3, 1)", x.row(0, 3, 1), Due.BAD);
        Due.is("row(0, 0, 41)", x.row(0, 0, 41), Due.BAD);
        Due.is("status after BAD", x.status(), 0);
        Due.is("row(0, 0, -1)", x.row(0, 0, -1), Due.SIZE);
        Due.is("status after SIZE", x.status(), 4);
        Due.is("row(8, 0, -1): BAD is ahead of SIZE", x.row(8, 0, -1), Due.BAD);
        Due.is("row(0, 3, -1)", x.row(0, 3, -1), Due.BAD);
        Due.is("status stays", x.status(), 4);
        Due.is("row(0, 0, lowest)", x.row(0, 0, Integer.MIN_VALUE), Due.SIZE);
        Due.is("row(0, 0, highest)", x.row(0, 0, Integer.MAX_VALUE), Due.BAD);
        Due.is("row 0 stays as it was", x.drop(0), 0);
        x.set(7, 39, 5);
        Due.is("in place of what is there", x.row(7, 1, 40), 40);
        x.row(6, 1, 40);
        x.row(5, 2, 20);
        x.set(7, 0, 70000);
        Due.is("items are 0 at first", x.copy(7, 39, 6, 0, 1), 1);
        Due.read(x, Due.FLAT);
        x.set(7, 20, 60);
        x.row(7, 1, 40);
        Due.is("level", x.level(7, 20), 1);
        Due.is("the first is 0", x.site(0, 0), 0);
        Due.is("the last is 0", x.site(19, 0), 0);
        Due.is("status after a success", x.status(), 0);
    }

    private static void sets() {
        OneBench x = new OneBench();
        x.row(0, 0, 3);
        x.row(1, 1, 3);
        x.row(2, 2, 3);
        Due.is("byte 127", x.set(0, 0, 127), 127);
        Due.is("byte 128", x.set(0, 2, 128), -128);
        Due.is("byte 256", x.set(0, 0, 256), 0);
        Due.is("byte -129", x.set(0, 0, -129), 127);
        Due.is("short 32767", x.set(1, 0, 32767), 32767);
        Due.is("short 32768", x.set(1, 0, 32768), -32768);
        Due.is("short 65541", x.set(1, 0, 65541), 5);
        Due.is("int lowest", x.set(2, 0, Integer.MIN_VALUE), Integer.MIN_VALUE);
        Due.is("set(-1, ..)", x.set(-1, 0, 0), Due.BAD);
        Due.is("set(8, ..)", x.set(8, 0, 0), Due.BAD);
        Due.is("place 3 of 3", x.set(0, 3, 1), Due.PLACE);
        Due.is("status 2", x.status(), 2);
        Due.is("place -1", x.set(0, -1, 1), Due.PLACE);
        Due.is("missing", x.set(3, -1, 1), Due.NULL);
        Due.is("status 1", x.status(), 1);
        Due.is("BAD leaves status", x.set(9, 0, 0), Due.BAD);
        Due.is("status 1 yet", x.status(), 1);
        Due.is("set again", x.set(2, 2, 9), 9);
        Due.is("status 0", x.status(), 0);
        x.row(4, 0, 0);
        Due.is("no place in an empty row", x.set(4, 0, 1), Due.PLACE);
    }

    private static void copies() {
        OneBench x = Due.bench(Due.FLAT);
        x.row(0, 2, 40);
        x.row(1, 2, 20);
        x.row(2, 0, 20);
        for (int i = 0; i < 40; i++) {
            x.set(0, i, i);
        }
        Due.is("20 items", x.copy(0, 5, 1, 0, 20), 20);
        x.level(1, 0);
        Due.is("first", x.site(0, 0), 5);
        Due.is("last", x.site(19, 0), 24);
        Due.is("on to itself, behind", x.copy(0, 0, 0, 1, 19), 19);
        x.level(0, 0);
        Due.is("as they were ahead 1", x.site(1, 0), 0);
        Due.is("as they were ahead 2", x.site(2, 0), 1);
        Due.is("as they were ahead 19", x.site(19, 0), 18);
        Due.is("on to itself, ahead", x.copy(0, 1, 0, 0, 19), 19);
        x.level(0, 0);
        Due.is("back 0", x.site(0, 0), 0);
        Due.is("back 18", x.site(18, 0), 18);
        Due.is("none at the end", x.copy(0, 40, 1, 20, 0), 0);
        Due.is("to the end", x.copy(0, 20, 1, 0, 20), 20);
        Due.is("a below", x.copy(-1, 0, 1, 0, 1), Due.BAD);
        Due.is("b above", x.copy(0, 0, 8, 0, 1), Due.BAD);
        Due.is("a missing", x.copy(7, 0, 1, 0, 1), Due.NULL);
        Due.is("b missing", x.copy(1, -1, 7, 0, 1), Due.NULL);
        Due.is("status 1", x.status(), 1);
        Due.is("two lanes, ahead of the place", x.copy(0, 99, 2, 0, 1), Due.STORE);
        Due.is("status 5", x.status(), 5);
        Due.is("i below", x.copy(0, -1, 1, 0, 1), Due.PLACE);
        Due.is("j below", x.copy(0, 0, 1, -1, 1), Due.PLACE);
        Due.is("n below", x.copy(0, 0, 1, 0, -1), Due.PLACE);
        Due.is("beyond a", x.copy(0, 21, 1, 0, 20), Due.PLACE);
        Due.is("beyond b", x.copy(0, 0, 1, 1, 20), Due.PLACE);
        Due.is("i beyond, none", x.copy(0, 41, 1, 0, 0), Due.PLACE);
        Due.is("j beyond, none", x.copy(0, 0, 1, 21, 0), Due.PLACE);
        Due.is("sums that overflow", x.copy(0, Integer.MAX_VALUE, 1, 0, 1), Due.PLACE);
        Due.is("sums that overflow", x.copy(0, 1, 1, 0, Integer.MAX_VALUE), Due.PLACE);
        Due.is("lowest", x.copy(0, 0, 1, 0, Integer.MIN_VALUE), Due.PLACE);
        Due.is("status 2", x.status(), 2);
        Due.is("BAD ahead of NULL", x.copy(7, 0, 8, 0, 1), Due.BAD);
        Due.is("status 2 yet", x.status(), 2);
    }

    private static void drops() {
        OneBench x = new OneBench();
        Due.is("missing at first", x.drop(7), Due.NULL);
        Due.is("status 1", x.status(), 1);
        x.row(7, 1, 12);
        Due.is("twelve", x.drop(7), 12);
        Due.is("status 0", x.status(), 0);
        Due.is("count", x.count(0), 0);
        Due.is("missing then", x.drop(7), Due.NULL);
        Due.is("set of a missing one", x.set(7, 0, 1), Due.NULL);
        Due.is("drop(-1)", x.drop(-1), Due.BAD);
        Due.is("drop(8)", x.drop(8), Due.BAD);
        Due.is("status 1 yet", x.status(), 1);
    }
}
