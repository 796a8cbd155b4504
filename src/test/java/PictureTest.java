/** Promises 16 to 19: keep, next, from, tree. */
public final class PictureTest {
    private static final Due DUE = new Due("PictureTest");

    public static void main(String[] args) {
        twelvePictures();
        goingOn();
        lostAndFound();
        foundOverOnePictureAtMost();
        comingMainlyFrom();
        laterPicturesComeFirst();
        comingFromTheMost();
        trees();
        branchesOfOne();
        noSuchHalos();
        DUE.end();
    }

    private static void twelvePictures() {
        Halofinder x = Scenes.four();
        for (int number = 0; number < 12; number++) {
            DUE.is("keep()", number, x.keep());
        }
        DUE.throwsIt("no thirteenth", IllegalStateException.class, () -> x.keep());
        DUE.throwsIt("again", IllegalStateException.class, () -> x.keep());
        DUE.is("the last one is there", 24, x.grain(11, 0, 0));
        DUE.throwsIt("none behind it", IndexOutOfBoundsException.class, () -> x.grain(12, 0, 0));
        x.universe(2);
        DUE.is("anew", 0, x.keep());
    }

    /** Singles, pairs, all, pairs, singles, none, pairs, none, none, pairs. */
    private static Halofinder tenPictures() {
        Halofinder x = Scenes.four();
        Scenes.keepSingles(x);
        Scenes.keepPairs(x);
        Scenes.keepAll(x);
        Scenes.keepPairs(x);
        Scenes.keepSingles(x);
        Scenes.keepNothing(x);
        Scenes.keepPairs(x);
        Scenes.keepNothing(x);
        Scenes.keepNothing(x);
        Scenes.keepPairs(x);
        return x;
    }

    private static void nexts(Halofinder x, int picture, int... want) {
        for (int halo = 0; halo < want.length; halo++) {
            DUE.is("next(" + picture + ", " + halo + ")", want[halo], x.next(picture, halo));
        }
    }

    private static void froms(Halofinder x, int picture, int... want) {
        for (int halo = 0; halo < want.length; halo++) {
            DUE.is("from(" + picture + ", " + halo + ")", want[halo], x.from(picture, halo));
        }
    }

    private static void goingOn() {
        Halofinder x = tenPictures();
        nexts(x, 0, 100, 101, 100, 101);
        nexts(x, 1, 200, 200);
        nexts(x, 2, 300);
        nexts(x, 3, 400, 401);
        nexts(x, 4, 600, 601, 600, 601);
        nexts(x, 6, -1, -1);
        nexts(x, 9, -1, -1);
        Halofinder y = Scenes.nine();
        y.link(10, 1);
        y.keep();
        y.link(2000, 1);
        y.keep();
        y.link(10, 1);
        y.keep();
        nexts(y, 0, 100, 100, 100, 100);
        nexts(y, 1, 200);
        DUE.is("that with the most grains", 2 + 4 + 16 + 32, y.grains(2, 0));
    }

    private static void lostAndFound() {
        Halofinder x = Scenes.nine();
        x.link(10, 1);
        x.keep();
        nexts(x, 0, -1, -1, -1, -1);
        x.link(10, 3);
        x.keep();
        nexts(x, 0, 100, -1, -1, -1);
        x.link(10, 2);
        x.keep();
        nexts(x, 0, 100, 201, 202, -1);
        nexts(x, 1, 200);
        x.link(10, 1);
        x.keep();
        nexts(x, 0, 100, 201, 202, -1);
        nexts(x, 1, 200);
        nexts(x, 2, 300, 301, 302);
        froms(x, 3, 200, 201, 202, -1);
        froms(x, 2, 100, 1, 2);
    }

    private static void foundOverOnePictureAtMost() {
        Halofinder x = Scenes.four();
        Scenes.keepPairs(x);
        Scenes.keepNothing(x);
        Scenes.keepPairs(x);
        Scenes.keepNothing(x);
        Scenes.keepNothing(x);
        Scenes.keepPairs(x);
        nexts(x, 0, 200, 201);
        nexts(x, 2, -1, -1);
        froms(x, 2, 0, 1);
        froms(x, 5, -1, -1);
    }

    private static void comingMainlyFrom() {
        Halofinder x = tenPictures();
        froms(x, 0, -1, -1, -1, -1);
        froms(x, 1, 0, 1);
        froms(x, 2, 100);
        froms(x, 3, 200, -1);
        froms(x, 4, 300, 301, -1, -1);
        froms(x, 6, 400, 401);
        froms(x, 9, -1, -1);
    }

    // Halo 1 of picture 0, grains 0 and 3, skips picture 1, where there are 1 2, 4 5 and 7 8.
    private static void laterPicturesComeFirst() {
        Halofinder x = Scenes.nine();
        x.link(10, 2);
        x.keep();
        x.link(3, 2);
        x.keep();
        x.link(2000, 2);
        x.keep();
        nexts(x, 0, 100, 200, 102);
        nexts(x, 1, 200, 200, 200);
        froms(x, 2, 100);
        froms(x, 1, 0, -1, 2);
        DUE.is("four go on in it", 4, x.tree(2, 0, 1));
        DUE.is("six and itself", 7, x.tree(2, 0, 2));
        DUE.is("its branch", 3, x.tree(2, 0, 0));
        DUE.is("that does not count for another tree", 2, x.tree(1, 0, 2));
    }

    // Halo 0 of picture 0 leaves grain 2 behind; halo 1 comes whole.
    private static void comingFromTheMost() {
        Halofinder x = new Halofinder();
        x.universe(3);
        x.ripple(2, -1, 900, 2);
        x.ripple(2, 1, 900, 3);
        x.link(900, 1);
        x.keep();
        x.step(10);
        x.link(1200, 1);
        x.keep();
        DUE.is("grains 0 2 3 5", 1 + 4 + 8 + 32, x.grains(0, 0));
        DUE.is("grains 1 4 6 8", 2 + 16 + 64 + 256, x.grains(0, 1));
        DUE.is("all but 2 and 7", 511 - 4 - 128, x.grains(1, 0));
        nexts(x, 0, 100, 100, 102);
        froms(x, 1, 1, -1, 2);
    }

    private static void tree(Halofinder x, int picture, int halo, int branch, int origins, int all) {
        DUE.is("branch of " + picture + ", " + halo, branch, x.tree(picture, halo, 0));
        DUE.is("how many go on in " + picture + ", " + halo, origins, x.tree(picture, halo, 1));
        DUE.is("how many " + picture + ", " + halo + " has come from", all, x.tree(picture, halo, 2));
    }

    private static void trees() {
        Halofinder x = tenPictures();
        tree(x, 0, 0, 1, 0, 1);
        tree(x, 1, 0, 2, 2, 3);
        tree(x, 1, 1, 2, 2, 3);
        tree(x, 2, 0, 3, 2, 7);
        tree(x, 3, 0, 4, 1, 8);
        tree(x, 3, 1, 1, 0, 1);
        tree(x, 4, 0, 5, 1, 9);
        tree(x, 4, 1, 2, 1, 2);
        tree(x, 4, 2, 1, 0, 1);
        tree(x, 6, 0, 6, 2, 11);
        tree(x, 6, 1, 3, 2, 4);
        tree(x, 9, 0, 1, 0, 1);
    }

    private static void branchesOfOne() {
        Halofinder x = new Halofinder();
        x.universe(8);
        x.link(1, 1);
        for (int number = 0; number < 12; number++) {
            x.keep();
        }
        DUE.is("next of the last halo", 1163, x.next(10, 63));
        DUE.is("from of the last halo", 1063, x.from(11, 63));
        tree(x, 11, 63, 12, 1, 12);
        tree(x, 5, 7, 6, 1, 6);
    }

    private static void noSuchHalos() {
        Halofinder x = tenPictures();
        int[][] none = {{-1, 0}, {10, 0}, {-2, 0}, {5, 0}, {2, 1}, {2, -1}, {Integer.MAX_VALUE, 0}, {0, Integer.MIN_VALUE}};
        for (int[] each : none) {
            String of = "(" + each[0] + ", " + each[1] + ")";
            DUE.throwsIt("next" + of, IndexOutOfBoundsException.class, () -> x.next(each[0], each[1]));
            DUE.throwsIt("from" + of, IndexOutOfBoundsException.class, () -> x.from(each[0], each[1]));
            DUE.throwsIt("tree" + of, IndexOutOfBoundsException.class, () -> x.tree(each[0], each[1], 0));
            DUE.throwsIt("tree" + of + " goes first", IndexOutOfBoundsException.class, () -> x.tree(each[0], each[1], 3));
        }
        DUE.throwsIt("tree(0, 0, 3)", IllegalArgumentException.class, () -> x.tree(0, 0, 3));
        DUE.throwsIt("tree(0, 0, -1)", IllegalArgumentException.class, () -> x.tree(0, 0, -1));
    }
}
