import java.util.ArrayList;
import java.util.List;

/** "Terms", part 1: rows, the tape, tokens, the text of a garden, its faults. */
public final class Terms1Test {
    private static final String[] SORTS = {"ash", "yew", "oak", "hedge", "false"};
    private static final int[] KINDS = {1, 3, 2, 4, 5};

    public static void main(String[] args) throws Exception {
        rowsAreMissing();
        rowsHaveALane();
        tapeHas400();
        names();
        numbers();
        signs();
        blanks();
        garden();
        ground();
        lake();
        tree();
        thing();
        stands();
        firstFault();
        faultsOfAllTokens();
        cannotStand();
        numberNotAsTold();
        noRoom();
        Told.end("Terms1Test", "Terms 1");
    }

    private static void rowsAreMissing() {
        Told.term(1, "ROWS 0 .. 7 are missing (at first),");
        OneBench x = new OneBench();
        for (int row = 0; row < 8; row++) {
            Told.is("set of " + row, x.set(row, 0, 1), Due.NULL);
            Told.is("copy of " + row, x.copy(row, 0, row, 0, 0), Due.NULL);
            Told.is("drop of " + row, x.drop(row), Due.NULL);
        }
        Told.is("no row 8", x.drop(8), Due.BAD);
        Told.is("none is there", x.count(0), 0);
        Due.read(x, Due.FLAT);
        Told.is("level of a missing one", x.level(7, 0), Due.NULL);
    }

    private static void rowsHaveALane() {
        Told.term(1, "or have a LANE (0 bytes, 1 shorts, 2 ints) and 0 to 40 ITEMS, 0 at first.");
        OneBench x = Due.bench(Due.FLAT);
        for (int lane = 0; lane < 3; lane++) {
            Told.is("0 items", x.row(lane, lane, 0), 0);
            Told.is("40 items", x.row(lane, lane, 40), 40);
            Told.is("41 items", x.row(lane, lane, 41), Due.BAD);
            Told.is("v cut to its lane", x.set(lane, 39, 0x12f0f0), new int[] {-16, -3856, 0x12f0f0}[lane]);
            x.set(lane, 39, 0);
            for (int from = 0; from <= 20; from += 20) {
                x.row(3, 2, 20);
                x.set(3, 0, 9);
                x.set(3, 19, 9);
                x.level(3, 0);
                Told.is("grounds of 0", x.level(lane, from), 1);
                for (int q = 0; q < 20; q++) {
                    Told.is("item " + (from + q), x.site(q, 0), 0);
                }
            }
        }
        Told.is("no lane 3", x.row(0, 3, 0), Due.BAD);
    }

    private static void tapeHas400() {
        Told.term(1, "TEXTS: THE TAPE has at most 400 bytes;");
        OneBench x = new OneBench();
        String text = Due.FLAT + "\n".repeat(338) + "tree yew 7 8 9;";
        Told.is("400 bytes", Due.feed(x, text), 400);
        Told.is("one more", x.feed(' ', 1), Due.FULL);
        Told.is("a garden of 400 bytes", x.garden(), 1);
        Due.feed(x, text.substring(0, 399));
        Told.is("two more", x.feed(0x2020, 2), Due.FULL);
        Told.is("one byte is missing: the end", x.garden(), -1000499);
        Due.feed(x, text.substring(0, 399) + ":");
        Told.is("the last byte is none", x.garden(), -1000499);
    }

    /** The text ahead is well; what comes behind has its first fault at its first byte. */
    private static void fault(String ahead, String behind, int number) {
        OneBench x = new OneBench();
        String text = ahead + behind;
        Told.is("garden of " + text, Due.read(x, text), -1000100 - ahead.length());
        Told.is("fault of " + text, x.fault(), number);
    }

    private static void well(String text) {
        OneBench x = new OneBench();
        Told.isSo("well is " + text, Due.read(x, text) >= 0);
        Told.is("fault of " + text, x.fault(), 0);
    }

    private static void names() {
        Told.term(1, "TOKENS: NAMES (letters a to z),");
        well(Due.FLAT + "tree false 1 2 3;");
        fault("", "Ground 0", 1);
        fault("", "grounds 0", 1);
        fault("", "groun 0", 1);
        fault("ground", "_ 0", 1);
        fault(Due.FLAT, "TREE oak 1 2 3;", 1);
        fault(Due.FLAT + "tree ", "{oak 1 2 3;", 1);
        fault(Due.FLAT + "tree ", "`oak 1 2 3;", 1);
        fault(Due.FLAT + "tree ", "oaks 1 2 3;", 1);
        fault(Due.FLAT + "tree ", "oa 1 2 3;", 1);
        fault(Due.FLAT + "tree ", "aok 1 2 3;", 1);
        fault(Due.FLAT + "tree ", "\u00efak 1 2 3;", 1);
        fault(Due.FLAT + "thing 1 2 ", "shows;", 1);
        fault(Due.FLAT, "treeoak 1 2 3;", 1);
        for (char letter = 'a'; letter <= 'z'; letter++) {
            fault("", "ground" + letter + " 0", 1);
            fault("", letter + "ground 0", 1);
        }
    }

    private static void numbers() {
        Told.term(1, "NUMBERS (figures, 3 at most),");
        String rest = " 0".repeat(19) + ";";
        for (String zero : new String[] {"0", "00", "000", "60", "060"}) {
            OneBench x = Due.bench("ground " + zero + rest);
            Told.is("ground " + zero, x.site(0, 0), Integer.parseInt(zero));
        }
        fault("ground ", "0000" + rest, 1);
        fault("ground ", "0060" + rest, 1);
        fault("ground ", "-1" + rest, 1);
        fault("ground ", "+1" + rest, 1);
        fault("ground 1", ".5" + rest, 1);
        fault("ground 1", "/" + rest, 1);
        fault("ground 1", ":" + rest, 1);
        fault("ground ", "061" + rest, 2);
        fault("ground ", "999" + rest, 2);
        fault("ground ", "42949672960" + rest, 1);
    }

    private static void signs() {
        Told.term(1, "SIGNS ;");
        String open = Due.FLAT.substring(0, Due.FLAT.length() - 1);
        well(open + ";");
        for (String other : new String[] {",", ":", "<", ".", "\u0000", "\u00bb", "[", "]"}) {
            fault(open, other, 1);
        }
        fault(Due.FLAT, ";", 1);
        fault(open + " ;", ";", 1);
    }

    private static void blanks() {
        Told.term(1, "bytes 32 and 10 ahead of, between, behind these, as many as wanted (none is needed where one ends without).");
        well("ground0" + " 0".repeat(19) + ";lake0 0;tree oak1 2 3;tree yew 2 2 2;thing1 2show;thing 1 2hide;");
        well("\n \nground\n0" + "\n0".repeat(19) + "\n\n;\n lake \n 0 0 ; \ntree\n oak\n1 \n2\n\n3;thing  1  2  show  ;  \n");
        well(" ".repeat(100) + Due.FLAT + "\n".repeat(100) + "lake 1" + " ".repeat(99) + "2;" + "\n".repeat(40));
        fault("ground ", "\t0", 1);
        fault("ground ", "\r\n0", 1);
        fault("ground ", "\u000b0", 1);
        fault("ground ", "\u00a00", 1);
        fault("ground ", "\u00000", 1);
        fault("", "groundground 0", 1);
        fault("ground ", "0000", 1);
    }

    private static void garden() {
        Told.term(1, "garden: ground [ lake ] { tree } { thing }.");
        String lake = "lake 1 2;";
        String tree = "tree oak 3 4 5;";
        String thing = "thing 6 7 show;";
        String tree2 = "tree yew 4 4 5;";
        for (String l : new String[] {"", lake}) {
            for (String t : new String[] {"", tree, tree + tree2}) {
                for (String th : new String[] {"", thing, thing + thing}) {
                    well(Due.FLAT + l + t + th);
                }
            }
        }
        fault("", lake + Due.FLAT, 1);
        fault("", tree, 1);
        fault("", thing, 1);
        fault("", ";", 1);
        fault("", "", 1);
        fault("  \n ", "", 1);
        fault(Due.FLAT, Due.FLAT, 1);
        fault(Due.FLAT + lake, lake, 1);
        fault(Due.FLAT + tree, lake, 1);
        fault(Due.FLAT + thing, lake, 1);
        fault(Due.FLAT + thing, tree, 1);
        fault(Due.FLAT + lake + tree + thing, tree2, 1);
    }

    private static void ground() {
        Told.term(1, "ground: 'ground' and 20 NUMBERS (0 to 60: the height at SITES 0 to 19) ';'.");
        StringBuilder text = new StringBuilder("ground");
        for (int q = 0; q < 20; q++) {
            text.append(' ').append(q * 60 / 19);
        }
        OneBench x = Due.bench(text + ";");
        for (int q = 0; q < 20; q++) {
            Told.is("site " + q, x.site(q, 0), q * 60 / 19);
        }
        fault("ground" + " 0".repeat(19) + " ", ";", 1);
        fault("ground" + " 0".repeat(20) + " ", "0;", 1);
        for (int q = 0; q < 20; q++) {
            well("ground" + " 0".repeat(q) + " 60" + " 0".repeat(19 - q) + ";");
            fault("ground" + " 0".repeat(q) + " ", "61" + " 0".repeat(19 - q) + ";", 2);
        }
    }

    private static void lake() {
        Told.term(1, "lake: 'lake' FROM TO ';' (SITES, TO no less).");
        well(Due.FLAT + "lake 0 0;");
        well(Due.FLAT + "lake 19 19;");
        well(Due.FLAT + "lake 0 19;");
        well(Due.FLAT + "lake 18 19;");
        fault(Due.FLAT + "lake ", "20 20;", 2);
        fault(Due.FLAT + "lake 19 ", "20;", 2);
        fault(Due.FLAT + "lake 1 ", "0;", 2);
        fault(Due.FLAT + "lake 19 ", "18;", 2);
        fault(Due.FLAT + "lake 5 ", ";", 1);
        fault(Due.FLAT + "lake 5 6 ", "7;", 1);
        // A thing of 30 at the site behind each of its own: the water's sites are 4, 5, 6, and no others.
        for (int site = 1; site < 20; site++) {
            OneBench x = Due.bench(Due.FLAT + "lake 4 6;thing " + site + " 30 show;");
            Told.is("doubled at " + site, x.doubled(30), site > 4 ? 1 : 0);
        }
        OneBench before = Due.bench(Due.FLAT + "lake 4 6;tree yew 7 9 0;thing 8 1 show;");
        Told.is("behind a tree none is seen from the water", before.doubled(30), 0);
    }

    private static void tree() {
        Told.term(1, "tree: 'tree' SORT SITE HIGH GROWS ';' (SORT: 'ash' | 'yew' | 'oak' | 'hedge' | 'false'; "
                + "each SITE once; 1 to 99; 0 to 9; TREES 0 .. 5, 6 at most).");
        for (int k = 0; k < 5; k++) {
            OneBench x = Due.bench(Due.FLAT + "tree " + SORTS[k] + " 0 1 0;tree " + SORTS[k] + " 19 99 9;");
            Told.is(SORTS[k], x.kind(0), KINDS[k]);
            Told.is(SORTS[k], x.kind(1), KINDS[k]);
            for (int what = 0; what < 4; what++) {
                Told.is("least, " + what, x.tree(0, what), new int[] {0, 1, 0, 0}[what]);
                Told.is("most, " + what, x.tree(1, what), new int[] {19, 99, 0, 9}[what]);
            }
        }
        for (String no : new String[] {"elm", "tree", "show", "ground", "0", ";"}) {
            fault(Due.FLAT + "tree ", no + " 1 1 1;", 1);
        }
        fault(Due.FLAT + "tree ash ", "20 1 1;", 2);
        fault(Due.FLAT + "tree ash 1 ", "0 1;", 2);
        fault(Due.FLAT + "tree ash 1 ", "100 1;", 2);
        fault(Due.FLAT + "tree ash 1 1 ", "10;", 2);
        fault(Due.FLAT + "tree ash 1 1 ", ";", 1);
        fault(Due.FLAT + "tree ash 1 1 1 ", "1;", 1);
        StringBuilder text = new StringBuilder(Due.FLAT);
        for (int t = 0; t < 6; t++) {
            for (int twice = 0; twice < t; twice++) {
                fault(text + "tree yew ", (5 + twice) + " 1 1;", 2);
            }
            text.append("tree oak ").append(5 + t).append(" 1 1;");
            Told.is("trees", Due.bench(text.toString()).count(1), t + 1);
        }
        fault(text.toString(), "tree oak 1 1 1;", 3);
    }

    private static void thing() {
        Told.term(1, "thing: 'thing' SITE HIGH WANT ';' (1 to 99; WANT: 'show' | 'hide'; THINGS 0 .. 5, 6 at most).");
        OneBench x = Due.bench(Due.FLAT + "thing 0 1 hide;thing 19 99 show;thing 19 99 show;");
        Told.is("things", x.count(2), 3);
        Told.is("at 19, twice", x.seen(18, 0), 6);
        Told.is("wants are met", x.met(1), 1);
        String six = Due.FLAT + "thing 1 1 show;".repeat(5);
        Told.is("wants of six", Due.bench(six + "thing 1 1 show;").met(1), 1);
        Told.is("the sixth is to hide", Due.bench(six + "thing 1 1 hide;").met(1), 0);
        Told.is("a hidden one is seen", Due.bench(Due.FLAT + "thing 19 99 hide;").met(1), 0);
        fault(Due.FLAT + "thing ", "20 1 show;", 2);
        fault(Due.FLAT + "thing 1 ", "0 show;", 2);
        fault(Due.FLAT + "thing 1 ", "100 show;", 2);
        fault(Due.FLAT + "thing 1 1 ", "see;", 1);
        fault(Due.FLAT + "thing 1 1 ", ";", 1);
        fault(Due.FLAT + "thing 1 1 ", "1;", 1);
        fault(Due.FLAT + "thing 1 1 ", "thing 1 1 show;", 1);
        fault(Due.FLAT + "thing 1 1 show ", "hide;", 1);
        StringBuilder text = new StringBuilder(Due.FLAT);
        for (int i = 1; i <= 6; i++) {
            text.append("thing 9 ").append(i).append(" show;");
            OneBench y = Due.bench(text.toString());
            Told.is("things", y.count(2), i);
            Told.is("all are seen", y.seen(0, 0), (1 << i) - 1);
        }
        fault(text.toString(), "thing 9 9 show;", 3);
    }

    private static void stands() {
        Told.term(1, "A GARDEN that is read stands in place of the one before (none at first): YEAR 0, no WINTER, "
                + "nothing is CUT, no DAY can be undone; IMAGES and ROWS stay.");
        Told.is("none at first", new OneBench().site(0, 0), Due.STATE);
        OneBench x = Look.rich();
        OneBench fresh = new OneBench();
        x.garden();
        String text = Due.FLAT + "tree ash 3 9 2;thing 10 9 show;";
        Told.is("read", Due.read(x, text), 1);
        Due.read(fresh, text);
        for (int what = 1; what <= 6; what++) {
            Told.is("count(" + what + ")", x.count(what), fresh.count(what));
        }
        Told.is("nothing is cut", x.tree(0, 2), 0);
        Told.is("its height in year 0, no winter", x.tree(0, 1), 9);
        Told.is("no day", x.undo(), Due.STATE);
        Told.is("rows stay", x.count(0), 3);
        Told.is("with their items", x.level(1, Look.GROUNDS_FROM) + x.site(0, 0), 34);
        Told.is("images stay", x.restore(0), 1);
        Told.is("its year", x.count(3), 3);
        Told.is("its winter", x.count(5), 1);
        Told.is("what was cut", x.tree(0, 2), 2);
        Told.is("one that was not kept", x.restore(1), Due.STATE);
        inPlaceOfEach();
        OneBench lakes = Due.bench(Due.FLAT + "lake 1 18;thing 19 9 show;");
        Told.is("a lake", lakes.doubled(9), 1);
        Due.read(lakes, Due.FLAT + "thing 19 9 show;");
        Told.is("no lake of the one before", lakes.doubled(9), 0);
    }

    /** Of none of the gardens before, the one before the last too, is anything left. */
    private static void inPlaceOfEach() {
        OneBench x = new OneBench();
        OneBench fresh = new OneBench();
        String first = "ground 9 9 9 9 9 9 9 9 9 9 9 9 9 9 9 9 9 9 9 9;lake 1 18;tree oak 3 9 2;tree ash 9 60 2;"
                + "thing 10 9 hide;thing 19 99 show;";
        String last = Due.FLAT + "tree ash 3 9 2;thing 12 99 show;";
        for (int again = 0; again < 4; again++) {
            Due.read(x, first);
            x.years(9);
            x.winter(1);
            x.clip(0, 5);
            x.clip(1, 7);
        }
        Due.read(x, "ground 1");
        Due.read(fresh, "ground 1");
        for (int again = 0; again < 3; again++) {
            Due.read(x, last);
            Due.read(fresh, last);
            Told.isSo("all is as in a new object, " + again, Look.at(x).equals(Look.at(fresh)));
        }
    }

    private static void firstFault() {
        Told.term(1, "FAULTS, the first TOKEN that has one (its first byte), of one TOKEN the least:");
        fault("ground ", "61 x;", 2);
        fault("ground ", "x 61", 1);
        fault(Due.FLAT + "  \n ", "tre oak 20 0 10", 1);
        fault(Due.FLAT + "tree oak ", "20 0 10", 2);
        fault(Due.FLAT + "tree oak 1 ", "0 10 x", 2);
        fault(Due.FLAT + "thing 1 ", "100 x", 2);
        fault(Due.FLAT + "lake 9\n\n", "8 x", 2);
        // A number beyond all bounds where none can stand, a tree behind the things, both without room: 1.
        fault(Due.FLAT, "999", 1);
        fault(Due.FLAT + "tree ", "999", 1);
        StringBuilder text = new StringBuilder(Due.FLAT);
        for (int t = 0; t < 6; t++) {
            text.append("tree oak ").append(t).append(" 1 1;");
        }
        for (int t = 0; t < 6; t++) {
            text.append("thing ").append(t).append(" 1 show;");
        }
        fault(text.toString(), "tree oak 1 1 1;", 1);
        fault(text.toString(), "thing 20 0 x", 3);
    }

    /** A place of the text, and what may stand there: a number from low to high, or words. */
    private record Slot(int low, int high, String words) {
        boolean takes(String token) {
            return isNumber(token) ? low <= value(token) && value(token) <= high : words.contains("|" + token + "|");
        }

        int faultOf(String token) {
            return isNumber(token) && low <= high ? 2 : 1;
        }

        private static boolean isNumber(String token) {
            return token.matches("[0-9]{1,3}");
        }

        private static int value(String token) {
            return Integer.parseInt(token);
        }
    }

    private static Slot number(int low, int high) {
        return new Slot(low, high, "");
    }

    private static Slot word(String words) {
        return new Slot(1, 0, "|" + words + "|");
    }

    /** Each token of a text in turn gives way to each of many others, or to the end. */
    private static void faultsOfAllTokens() {
        Told.term(1, "1 it cannot stand there, or is none (a run of four figures or more, at its first; "
                + "the end: how many bytes there are);");
        List<Slot> slots = new ArrayList<>();
        StringBuilder text = new StringBuilder("ground");
        slots.add(word("ground"));
        for (int q = 0; q < 20; q++) {
            text.append(" ").append(q);
            slots.add(number(0, 60));
        }
        text.append(" ; lake 3 8 ; tree ash 3 9 2 ; thing 10 30 show ;");
        Slot[] behind = {word(";"), word("lake|tree|thing|end"), number(0, 19), number(3, 19), word(";"),
            word("tree|thing|end"), word("ash|yew|oak|hedge|false"), number(0, 19), number(1, 99), number(0, 9),
            word(";"), word("tree|thing|end"), number(0, 19), number(1, 99), word("show|hide"), word(";"),
            word("thing|end")};
        slots.addAll(List.of(behind));
        String[] tokens = text.toString().split(" ");
        Told.is("slots and one for the end", slots.size(), tokens.length + 1);
        String[] others = {"ground", "lake", "tree", "thing", "ash", "false", "show", "hide", "x", ";", "0", "1", "2",
            "10", "19", "20", "60", "61", "99", "100", "999", "1000", "00000", "-", "A", "\u00ff"};
        StringBuilder ahead = new StringBuilder();
        for (int i = 0; i < slots.size(); i++) {
            for (String other : others) {
                if (!slots.get(i).takes(other)) {
                    fault(ahead.toString(), other + " ;", slots.get(i).faultOf(other));
                }
            }
            if (!slots.get(i).takes("end")) {
                fault(ahead.toString(), "", 1);
                fault(ahead + "  \n", "", 1);
            } else {
                well(ahead.toString());
            }
            ahead.append(i < tokens.length ? tokens[i] + " " : "");
        }
    }

    private static void cannotStand() {
        // Each letter of each word in turn is another one, a capital, there twice, or missing.
        for (String sort : SORTS) {
            wordsLike(Due.FLAT + "tree ", sort);
        }
        wordsLike("", "ground");
        wordsLike(Due.FLAT, "lake");
        wordsLike(Due.FLAT, "tree");
        wordsLike(Due.FLAT, "thing");
        wordsLike(Due.FLAT + "thing 1 1 ", "show");
        wordsLike(Due.FLAT + "thing 1 1 ", "hide");
        fault("ground ", "1234", 1);
        fault("ground ", "12345678901234567890", 1);
        fault("ground 1", "", 1);
        fault("ground " + "7 ".repeat(19), "0061;", 1);
        fault(Due.FLAT + "tree ash ", "0001 1 1;", 1);
        fault(Due.FLAT + "tree ash 1 1 1", "", 1);
        // The end is where the tape's bytes end, whatever stood behind them on one before.
        for (String before : new String[] {"7", "z", " ", ";"}) {
            for (String cut : new String[] {"", "gr", "ground", "ground 1", "ground 1 ", "ground 123", Due.FLAT + "tree"}) {
                OneBench fresh = new OneBench();
                OneBench x = new OneBench();
                Due.read(x, before.repeat(400));
                Told.is("garden of " + cut + ", behind many " + before, Due.read(x, cut), Due.read(fresh, cut));
                Told.is("fault of it", x.fault(), fresh.fault());
            }
        }
        for (String last : new String[] {"1", "12", "1 ", "1;tree", "1;;"}) {
            String text = Due.FLAT + "tree ash 1 1 ";
            String full = text + " ".repeat(400 - text.length() - last.length()) + last;
            int end = last.equals("12") ? 398 : last.endsWith(";;") ? 399 : 400;
            fault(full.substring(0, end), full.substring(end), last.equals("12") ? 2 : 1);
        }
    }

    private static void wordsLike(String ahead, String word) {
        for (int i = 0; i < word.length(); i++) {
            String before = word.substring(0, i);
            String letter = word.substring(i, i + 1);
            String behind = word.substring(i + 1);
            fault(ahead, before + "x" + behind + " 1", 1);
            fault(ahead, before + letter.toUpperCase() + behind + " 1", 1);
            fault(ahead, before + letter + letter + behind + " 1", 1);
            fault(ahead, before + behind + " 1", 1);
        }
    }

    private static void numberNotAsTold() {
        Told.term(1, "2 a NUMBER that is not as told (a SITE of a tree told twice, too);");
        fault("ground ", "61", 2);
        fault(Due.FLAT + "lake ", "20", 2);
        fault(Due.FLAT + "lake 3 ", "2", 2);
        fault(Due.FLAT + "tree ash 1 1 1;tree yew ", "1 0 10", 2);
        fault(Due.FLAT + "tree ash 1 1 1;tree yew ", "01 0 10", 2);
        fault(Due.FLAT + "tree ash 0 1 1;tree yew 1 1 1;tree oak ", "000;", 2);
        well(Due.FLAT + "tree ash 1 1 1;tree yew 11 1 1;");
        well(Due.FLAT + "tree ash 1 1 1;thing 1 1 show;thing 1 1 show;");
    }

    private static void noRoom() {
        Told.term(1, "3 a tree, a thing more than there is room for (its word).");
        StringBuilder text = new StringBuilder(Due.FLAT);
        for (int t = 0; t < 6; t++) {
            text.append("tree hedge ").append(t).append(" 1 1;");
        }
        well(text.toString());
        fault(text.toString(), "tree", 3);
        fault(text + " \n", "tree elm", 3);
        fault(text.toString(), "trees", 1);
        for (int t = 0; t < 6; t++) {
            text.append("thing 1 1 hide;");
        }
        well(text.toString());
        fault(text.toString(), "thing", 3);
        fault(text + " \n", "thing thing", 3);
        fault(text.toString(), "things", 1);
        fault(text.toString(), "tree", 1);
    }
}
