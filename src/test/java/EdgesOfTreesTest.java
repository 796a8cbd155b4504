/** 'Pictures, trees' and promises 16 to 19: a test for each sentence that names an edge, under its words. */
public final class EdgesOfTreesTest {
    private static final Due DUE = new Due("EdgesOfTreesTest");

    public static void main(String[] args) {
        picturesAreTwelve();
        picturesAreNumberedAnew();
        picturesStayAsTheyWere();
        goesOnInTheMost();
        goesOnInTheLowestOfSeveral();
        oneGrainIsEnough();
        goesOnBehindTheNext();
        goesOnBehindTheNextInTheMost();
        goesOnBehindTheNextInTheLowestOfSeveral();
        lostInTheLastPicture();
        lostUntilAPictureBehind();
        lostAfterTwoPictures();
        comesFromTheMost();
        comesFromTheLaterPicture();
        comesFromTheLowestOfOnePicture();
        comesFromNothing();
        branchOfItself();
        treesOfSeveralPictures();
        treesOfAllPictures();
        greatestNumbers();
        noSuchPictures();
        noSuchHalos();
        treeNumbers();
        DUE.end();
    }

    private static void halos(Halofinder x, int picture, long... want) {
        DUE.is("halos of " + picture, want.length, x.halos(picture));
        for (int halo = 0; halo < want.length; halo++) {
            DUE.is("grains of " + picture + ", " + halo, want[halo], x.grains(picture, halo));
        }
    }

    private static void nexts(Halofinder x, int picture, int... want) {
        for (int halo = 0; halo < want.length; halo++) {
            DUE.is("next(" + picture + ", " + halo + ")", want[halo], x.next(picture, halo));
        }
    }

    private static void froms(Halofinder x, int picture, int... want) {
        for (int halo = 0; halo < want.length; halo++) {
            DUE.is("from(" + picture + ", " + halo + ")", want[halo], x.from(picture, halo));
        }
    }

    private static void tree(Halofinder x, int picture, int halo, int branch, int origins, int all) {
        DUE.is("branch of " + picture + ", " + halo, branch, x.tree(picture, halo, 0));
        DUE.is("how many go on in " + picture + ", " + halo, origins, x.tree(picture, halo, 1));
        DUE.is("tree of " + picture + ", " + halo, all, x.tree(picture, halo, 2));
    }

    private static void keepLinked(Halofinder x, int length, int least) {
        x.link(length, least);
        x.keep();
    }

    // "at most 12": "Throws IllegalStateException if there are 12"
    private static void picturesAreTwelve() {
        Halofinder x = Scenes.four();
        for (int number = 0; number < 12; number++) {
            DUE.is("keep()", number, Scenes.keepPairs(x));
        }
        x.link(1, 1);
        for (int turn = 0; turn < 3; turn++) {
            DUE.throwsIt("a thirteenth", IllegalStateException.class, () -> x.keep());
        }
        DUE.missing("which is not there", () -> x.halos(12));
        for (int picture = 0; picture < 12; picture++) {
            DUE.is("halos of " + picture, 2, x.halos(picture));
        }
        nexts(x, 10, 1100, 1101);
        nexts(x, 11, -1, -1);
        DUE.is("the branch through all", 12, x.tree(11, 1, 0));
        DUE.is("all gas", 400, x.kept());
    }

    // "Pictures are numbered from 0": after another universe too
    private static void picturesAreNumberedAnew() {
        Halofinder x = Scenes.four();
        for (int number = 0; number < 12; number++) {
            Scenes.keepAll(x);
        }
        x.universe(3);
        DUE.is("the first", 0, x.keep());
        DUE.is("the second", 1, x.keep());
        nexts(x, 0, 100);
        nexts(x, 1, -1);
        froms(x, 0, -1);
        DUE.is("its tree", 1, x.tree(0, 0, 2));
        DUE.missing("a third", () -> x.next(2, 0));
    }

    // "A picture keeps places, speeds, and halos"
    private static void picturesStayAsTheyWere() {
        Halofinder x = Scenes.four();
        Scenes.keepPairs(x);
        x.pull(10000, 10);
        x.step(3);
        x.link(2000, 1);
        Scenes.keepAll(x);
        long[] want = {24, 924, -1000, -100};
        for (int what = 0; what < 4; what++) {
            DUE.is("what " + what + " of grain 0 then", want[what], x.grain(0, 0, what));
        }
        halos(x, 0, 5, 10);
        DUE.is("the middle then", 0, x.ofHalo(0, 0, 1));
        DUE.is("the spin then: -48 times -100", 4800, x.ofHalo(0, 0, 5));
    }

    // "goes on in that halo of the next picture which has the most of its grains"
    private static void goesOnInTheMost() {
        Halofinder x = new Halofinder();
        x.universe(3);
        x.ripple(2, 1, 900, 3);
        x.ripple(-1, 1, 600, 4);
        keepLinked(x, 1200, 3);
        x.step(6);
        keepLinked(x, 1100, 3);
        halos(x, 0, 2 + 8 + 16 + 64 + 128 + 256, 1 + 4 + 32);
        halos(x, 1, 8 + 16 + 32 + 64 + 128 + 256, 1 + 2 + 4);
        nexts(x, 0, 100, 101);
        froms(x, 1, 0, 1);
    }

    // "of several in the lowest": three grains each in halos 1 and 2, one in halo 0
    private static void goesOnInTheLowestOfSeveral() {
        Halofinder x = new Halofinder();
        x.universe(3);
        x.ripple(2, 2, 600, 11);
        keepLinked(x, 1400, 1);
        x.step(5);
        keepLinked(x, 1200, 3);
        halos(x, 0, 254, 1 + 256);
        halos(x, 1, 1 + 16 + 256, 2 + 32 + 64, 4 + 8 + 128);
        nexts(x, 0, 101, 100);
        froms(x, 1, 1, 0, -1);
    }

    // "if no halo there has any": of two grains one is some
    private static void oneGrainIsEnough() {
        Halofinder x = Scenes.four();
        Scenes.keepPairs(x);
        Scenes.keepSingles(x);
        Scenes.keepPairs(x);
        nexts(x, 0, 100, 101);
        nexts(x, 1, 200, 201, 200, 201);
        froms(x, 2, 100, 101);
    }

    // "in that of the picture behind that one"
    private static void goesOnBehindTheNext() {
        Halofinder x = Scenes.four();
        Scenes.keepPairs(x);
        Scenes.keepNothing(x);
        Scenes.keepPairs(x);
        nexts(x, 0, 200, 201);
        froms(x, 2, 0, 1);
        tree(x, 2, 1, 2, 1, 2);
    }

    // "likewise": the most of its grains
    private static void goesOnBehindTheNextInTheMost() {
        Halofinder x = new Halofinder();
        x.universe(3);
        x.ripple(1, 2, 900, 6);
        x.ripple(-2, -1, 300, 0);
        keepLinked(x, 1200, 3);
        x.step(6);
        keepLinked(x, 600, 2);
        keepLinked(x, 1400, 3);
        halos(x, 0, 2 + 4 + 16 + 128 + 256, 1 + 8 + 32);
        halos(x, 1, 2 + 16);
        halos(x, 2, 2 + 4 + 16 + 32 + 128 + 256, 1 + 8 + 64);
        nexts(x, 0, 100, 201);
        nexts(x, 1, 200);
        froms(x, 2, 100, 1);
    }

    // "likewise": of several in the lowest, two grains each in halos 1 and 2, one in halo 0
    private static void goesOnBehindTheNextInTheLowestOfSeveral() {
        Halofinder x = new Halofinder();
        x.universe(3);
        x.ripple(-2, -1, 1000, 8);
        x.ripple(-1, 2, 500, 5);
        keepLinked(x, 1300, 2);
        keepLinked(x, 700, 3);
        x.step(9);
        keepLinked(x, 1300, 2);
        halos(x, 0, 1 + 2 + 4 + 32 + 256, 16 + 64 + 128);
        halos(x, 1, 16 + 64 + 128);
        halos(x, 2, 1 + 8 + 16 + 64 + 128, 2 + 4, 32 + 256);
        nexts(x, 0, 201, 100);
        froms(x, 2, 100, 0, -1);
    }

    // "or no such picture, it is lost": nothing is behind the last one
    private static void lostInTheLastPicture() {
        Halofinder x = Scenes.four();
        Scenes.keepPairs(x);
        nexts(x, 0, -1, -1);
        Scenes.keepPairs(x);
        nexts(x, 0, 100, 101);
        nexts(x, 1, -1, -1);
    }

    // "or no such picture": lost as long as there is no picture behind the next one
    private static void lostUntilAPictureBehind() {
        Halofinder x = Scenes.four();
        Scenes.keepPairs(x);
        Scenes.keepNothing(x);
        nexts(x, 0, -1, -1);
        Scenes.keepAll(x);
        nexts(x, 0, 200, 200);
        Scenes.keepPairs(x);
        nexts(x, 0, 200, 200);
    }

    // "if there is none either": the third picture comes too late
    private static void lostAfterTwoPictures() {
        Halofinder x = Scenes.four();
        Scenes.keepPairs(x);
        Scenes.keepNothing(x);
        Scenes.keepNothing(x);
        Scenes.keepPairs(x);
        nexts(x, 0, -1, -1);
        froms(x, 3, -1, -1);
        tree(x, 3, 0, 1, 0, 1);
    }

    // "from that which shares the most grains with it": three of picture 0, two of picture 1
    private static void comesFromTheMost() {
        Halofinder x = new Halofinder();
        x.universe(3);
        x.ripple(-2, 0, 700, 3);
        x.ripple(-1, 1, 100, 9);
        keepLinked(x, 1100, 1);
        x.step(8);
        keepLinked(x, 500, 2);
        x.step(1);
        keepLinked(x, 2000, 2);
        halos(x, 0, 1 + 8 + 64, 2 + 16 + 128, 4 + 32 + 256);
        halos(x, 1, 32 + 256);
        halos(x, 2, 511);
        nexts(x, 0, 200, 200, 100);
        froms(x, 2, 0);
        tree(x, 2, 0, 2, 3, 5);
        tree(x, 1, 0, 2, 1, 2);
    }

    // "of several from that of the later picture": two grains of each of three
    private static void comesFromTheLaterPicture() {
        Halofinder x = new Halofinder();
        x.universe(3);
        x.ripple(-1, 2, 900, 2);
        x.ripple(-1, -2, 500, 15);
        keepLinked(x, 900, 2);
        keepLinked(x, 300, 2);
        x.step(10);
        keepLinked(x, 1600, 3);
        halos(x, 0, 1 + 4 + 8, 16 + 128 + 256, 2 + 64);
        halos(x, 1, 4 + 8, 16 + 256);
        halos(x, 2, 511);
        nexts(x, 0, 100, 101, 200);
        froms(x, 2, 100);
        tree(x, 2, 0, 3, 3, 6);
    }

    // "of several of one picture from the lowest"
    private static void comesFromTheLowestOfOnePicture() {
        Halofinder x = Scenes.four();
        Scenes.keepSingles(x);
        Scenes.keepPairs(x);
        Scenes.keepAll(x);
        froms(x, 1, 0, 1);
        froms(x, 2, 100);
        Halofinder y = Scenes.four();
        Scenes.keepPairs(y);
        Scenes.keepNothing(y);
        Scenes.keepAll(y);
        froms(y, 2, 0);
    }

    // "NONE if nothing goes on in it": though its grains were in a halo that goes on elsewhere
    private static void comesFromNothing() {
        Halofinder x = Scenes.four();
        Scenes.keepAll(x);
        Scenes.keepPairs(x);
        Scenes.keepSingles(x);
        froms(x, 0, -1);
        froms(x, 1, 0, -1);
        froms(x, 2, 100, 101, -1, -1);
    }

    // "The branch of a halo is itself, what it comes mainly from, and so on": itself alone
    private static void branchOfItself() {
        Halofinder x = Scenes.four();
        Scenes.keepAll(x);
        Scenes.keepPairs(x);
        tree(x, 0, 0, 1, 0, 1);
        tree(x, 1, 1, 1, 0, 1);
        tree(x, 1, 0, 2, 1, 2);
    }

    // "itself, all that go on in it, all that go on in these, and so on"
    private static void treesOfSeveralPictures() {
        Halofinder x = Scenes.four();
        Scenes.keepSingles(x);
        Scenes.keepNothing(x);
        Scenes.keepPairs(x);
        Scenes.keepNothing(x);
        Scenes.keepAll(x);
        tree(x, 4, 0, 3, 2, 7);
        tree(x, 2, 1, 2, 2, 3);
        tree(x, 0, 3, 1, 0, 1);
    }

    // The same of all that there can be: eleven pictures of 64 halos go on in one.
    private static void treesOfAllPictures() {
        Halofinder x = new Halofinder();
        x.universe(8);
        for (int number = 0; number < 11; number++) {
            keepLinked(x, 1, 1);
        }
        keepLinked(x, 512, 64);
        tree(x, 11, 0, 12, 64, 1 + 11 * 64);
        DUE.is("from the lowest", 1000, x.from(11, 0));
        DUE.is("next(10, 63)", 1100, x.next(10, 63));
    }

    // "100 times the number of the picture, and the halo there, together"
    private static void greatestNumbers() {
        Halofinder x = new Halofinder();
        x.universe(8);
        for (int number = 0; number < 12; number++) {
            keepLinked(x, 1, 1);
        }
        DUE.is("next(0, 0)", 100, x.next(0, 0));
        DUE.is("next(10, 63)", 1163, x.next(10, 63));
        DUE.is("next(11, 63)", Halofinder.NONE, x.next(11, 63));
        DUE.is("from(1, 0)", 0, x.from(1, 0));
        DUE.is("from(11, 63)", 1063, x.from(11, 63));
        DUE.is("from(0, 63)", Halofinder.NONE, x.from(0, 63));
        tree(x, 11, 63, 12, 1, 12);
    }

    // "Throws IndexOutOfBoundsException if there is no such picture": now is none
    private static void noSuchPictures() {
        Halofinder x = Scenes.four();
        x.link(100, 1);
        DUE.missing("next of none", () -> x.next(0, 0));
        DUE.missing("from of none", () -> x.from(0, 0));
        DUE.missing("tree of none", () -> x.tree(0, 0, 0));
        Scenes.keepPairs(x);
        int[] none = {-1, 1, -2, 12, Integer.MIN_VALUE, Integer.MAX_VALUE};
        for (int picture : none) {
            DUE.missing("next(" + picture + ", 0)", () -> x.next(picture, 0));
            DUE.missing("from(" + picture + ", 0)", () -> x.from(picture, 0));
            DUE.missing("tree(" + picture + ", 0, 0)", () -> x.tree(picture, 0, 0));
            DUE.missing("tree(" + picture + ", 0, 3)", () -> x.tree(picture, 0, 3));
        }
    }

    // "... or halo": of a picture without halos there is none
    private static void noSuchHalos() {
        Halofinder x = Scenes.four();
        Scenes.keepPairs(x);
        Scenes.keepNothing(x);
        int[][] none = {{0, 2}, {0, -1}, {0, 64}, {0, Integer.MIN_VALUE}, {0, Integer.MAX_VALUE}, {1, 0}, {1, -1}};
        for (int[] each : none) {
            String of = "(" + each[0] + ", " + each[1] + ")";
            DUE.missing("next" + of, () -> x.next(each[0], each[1]));
            DUE.missing("from" + of, () -> x.from(each[0], each[1]));
            DUE.missing("tree" + of, () -> x.tree(each[0], each[1], 2));
            DUE.missing("tree" + of + " goes first", () -> x.tree(each[0], each[1], -1));
        }
    }

    // "what: 0 ... 1 ... 2": "Throws IllegalArgumentException if what is out of range"
    private static void treeNumbers() {
        Halofinder x = Scenes.four();
        Scenes.keepPairs(x);
        int[] wrong = {-1, 3, Integer.MIN_VALUE, Integer.MAX_VALUE};
        for (int what : wrong) {
            DUE.refused("tree(0, 1, " + what + ")", () -> x.tree(0, 1, what));
        }
        tree(x, 0, 1, 1, 0, 1);
    }
}
