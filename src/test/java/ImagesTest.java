/** Promises 26 and 27: image, restore. */
public final class ImagesTest {
    private static final String ONE = "ground 1 2 3 4 5 6 7 8 9 8 7 6 5 4 3 2 1 0 0 0;lake 15 18;"
            + "tree ash 3 9 2;tree oak 8 5 3;thing 17 40 show;thing 19 60 hide;";

    public static void main(String[] args) {
        kept();
        refused();
        apart();
        Due.end("ImagesTest");
    }

    private static int[] look(OneBench x) {
        int[] told = new int[60];
        int n = 0;
        for (int what = 1; what <= 5; what++) {
            if (what != 4) {
                told[n++] = x.count(what);
            }
        }
        for (int tree = 0; tree < 2; tree++) {
            told[n++] = x.kind(tree);
            for (int what = 0; what < 4; what++) {
                told[n++] = x.tree(tree, what);
            }
        }
        for (int site = 0; site < 20; site++) {
            told[n++] = x.site(site, 0);
        }
        for (int eye = 0; eye < 31; eye += 6) {
            told[n++] = x.seen(0, eye);
            told[n++] = x.doubled(eye);
        }
        told[n++] = x.met(Integer.MAX_VALUE);
        return told;
    }

    private static void same(String when, int[] got, int[] want) {
        for (int i = 0; i < want.length; i++) {
            Due.is(when + ", look " + i, got[i], want[i]);
        }
    }

    private static void kept() {
        OneBench x = Due.bench(ONE);
        x.row(0, 2, 20);
        int[] first = look(x);
        Due.is("image 0", x.image(0), 1);
        x.years(4);
        x.clip(0, 3);
        x.winter(1);
        x.move(1, 12);
        int[] second = look(x);
        Due.is("image 1", x.image(1), 1);
        Due.is("is no day", x.count(4), 4);
        x.level(0, 0);
        x.years(9);
        Due.is("restore 0", x.restore(0), 1);
        Due.is("no day can be undone", x.count(4), 0);
        Due.is("no day", x.undo(), Due.STATE);
        same("first", look(x), first);
        Due.is("restore 1", x.restore(1), 1);
        same("second", look(x), second);
        Due.is("another garden", Due.read(x, Due.FLAT + "thing 1 1 show;"), 0);
        Due.is("restore 0", x.restore(0), 1);
        same("first again", look(x), first);
        Due.is("kept in place of the one before", x.image(1), 1);
        x.years(2);
        x.restore(1);
        same("it too", look(x), first);
    }

    private static void refused() {
        OneBench x = new OneBench();
        for (int k : new int[] {-1, 2, Integer.MAX_VALUE, Integer.MIN_VALUE}) {
            Due.is("image", x.image(k), Due.BAD);
            Due.is("restore", x.restore(k), Due.BAD);
        }
        Due.is("no garden", x.image(0), Due.STATE);
        Due.is("none was kept", x.restore(0), Due.STATE);
        Due.read(x, ONE);
        x.years(1);
        Due.is("none was kept", x.restore(0), Due.STATE);
        Due.is("one day yet", x.count(4), 1);
        x.image(0);
        Due.is("none was kept", x.restore(1), Due.STATE);
    }

    private static void apart() {
        OneBench x = Due.bench(ONE);
        x.image(0);
        x.restore(0);
        x.clip(0, 5);
        x.move(0, 18);
        x.years(3);
        x.restore(0);
        Due.is("later days do not touch it", x.tree(0, 2), 0);
        Due.is("site", x.tree(0, 0), 3);
        Due.is("year", x.count(3), 0);
        x.years(3);
        Due.is("days go on", x.undo(), 0);
        Due.is("one object does not touch another", new OneBench().restore(0), Due.STATE);
    }
}
