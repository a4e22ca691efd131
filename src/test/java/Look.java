import java.util.ArrayList;
import java.util.Arrays;
import java.util.List;
import java.util.function.ToIntFunction;

/** What can be asked of an object: so that two of them can be compared, whatever they hold inside. */
final class Look {
    /** Kinds of all sorts, days, a fault, a trace, rows of each lane, one image, a byte on the tape. */
    private static final String RICH = "ground 9 8 7 2 2 2 2 2 2 6 7 8 9 8 7 6 5 4 3 20;lake 3 8;"
            + "tree ash 3 9 2;tree oak 5 3 1;tree yew 7 6 1;tree hedge 12 8 3;tree false 14 7 4;tree ash 18 2 1;"
            + "thing 10 30 show;thing 16 9 hide;thing 19 60 show;";

    /** In a row of the rich one: 20 items from here on are grounds, one place further they are not. */
    static final int GROUNDS_FROM = 15;

    private Look() {
    }

    /** A call of the class with its numbers in a list. */
    interface Call {
        int by(OneBench x, int... numbers);
    }

    static OneBench rich() {
        OneBench x = new OneBench();
        Due.read(x, "x");
        x.row(0, 0, 20);
        x.set(0, 7, 60);
        x.row(1, 2, 40);
        x.set(1, 35, 61);
        x.set(1, GROUNDS_FROM, 33);
        x.row(2, 1, 0);
        Due.read(x, RICH);
        x.years(3);
        x.clip(0, 2);
        x.winter(1);
        x.image(0);
        x.move(1, 6);
        x.ask(1, 0);
        x.as(0, 3);
        x.feed('g', 1);
        return x;
    }

    /** By calls alone that change nothing; not the status. */
    static List<Integer> at(OneBench x) {
        List<Integer> seen = new ArrayList<>();
        for (int what = 0; what <= 6; what++) {
            seen.add(x.count(what));
        }
        seen.add(x.fault());
        for (int i = 0; i <= 6; i++) {
            seen.add(x.trace(i));
        }
        for (int t = 0; t < x.count(1); t++) {
            seen.add(x.kind(t));
            for (int what = 0; what <= 3; what++) {
                seen.add(x.tree(t, what));
            }
        }
        for (int q = 0; q < 20; q++) {
            seen.add(x.site(q, 0));
        }
        for (int eye = 0; eye <= 30; eye += 15) {
            seen.add(x.seen(0, eye));
            seen.add(x.doubled(eye));
        }
        seen.add(x.met(Integer.MAX_VALUE));
        return seen;
    }

    /** Through the rows, the days, the images, one behind the other: the object is used up by it. */
    static List<Integer> through(OneBench x) {
        List<Integer> seen = at(x);
        while (x.count(4) > 0) {
            x.undo();
            seen.add(x.count(3));
            seen.add(x.count(5));
            seen.add(x.tree(0, 2));
            seen.add(x.tree(1, 0));
            seen.add(x.site(7, 0));
        }
        for (int row = 0; row < 2; row++) {
            seen.add(x.level(row, row * GROUNDS_FROM));
            for (int q = 0; q < 20; q++) {
                seen.add(x.site(q, 0));
            }
        }
        for (int row = 0; row < 8; row++) {
            seen.add(x.drop(row));
        }
        for (int k = 0; k < 2; k++) {
            seen.add(x.restore(k));
        }
        seen.addAll(at(x));
        return seen;
    }

    /** Each of these, in place of one of the numbers that are well on the rich one, is refused. */
    static void refuses(int due, String name, Call call, int[] well, int place, int... instead) {
        int answer = call.by(rich(), well);
        Told.isSo(name + " is well with " + Arrays.toString(well), answer > Due.FULL && answer != Due.BAD
                && answer != Due.STATE && !(answer >= Due.STORE && answer <= Due.NULL));
        for (int value : instead) {
            int[] numbers = well.clone();
            numbers[place] = value;
            staysBy(name + " of " + Arrays.toString(numbers), x -> call.by(x, numbers), due);
        }
    }

    /** STATE without a garden, with numbers that are well and with others. */
    static void needsGarden(String name, Call call, int[] well, int[]... others) {
        staysByWithout(name + " of " + Arrays.toString(well), x -> call.by(x, well), Due.STATE);
        for (int[] numbers : others) {
            staysByWithout(name + " of " + Arrays.toString(numbers), x -> call.by(x, numbers), Due.STATE);
        }
    }

    /** A call answers what is due, and of the object, like another one, nothing is changed by it. */
    static void staysBy(String call, ToIntFunction<OneBench> by, int due) {
        OneBench x = rich();
        OneBench twin = rich();
        Told.is(call, by.applyAsInt(x), due);
        boolean found = due >= Due.STORE && due <= Due.NULL;
        Told.is("status behind " + call, x.status(), found ? -1000010 - due : twin.status());
        Told.isSo("nothing changes by " + call, through(x).equals(through(twin)));
    }

    /** The same without a garden. */
    static void staysByWithout(String call, ToIntFunction<OneBench> by, int due) {
        OneBench x = new OneBench();
        OneBench twin = new OneBench();
        Told.is(call + " without a garden", by.applyAsInt(x), due);
        boolean found = due >= Due.STORE && due <= Due.NULL;
        Told.is("status behind " + call, x.status(), found ? -1000010 - due : 0);
        Told.isSo("nothing changes by " + call, through(x).equals(through(twin)));
    }
}
