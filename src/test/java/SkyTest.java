/** Promises 23 to 26: observe, survey, seen, sky. */
public final class SkyTest {
    private static final Due DUE = new Due("SkyTest");

    public static void main(String[] args) {
        whatIsSeen();
        edgesOfTheDepth();
        earlierPicturesAreFarther();
        starlessGalaxiesAreNotSeen();
        partsOfTheSky();
        masks();
        redsRoundDown();
        spectraByPart();
        spectraByStarsOfAllPictures();
        noSuchPlaces();
        DUE.end();
    }

    private static void sky(Halofinder x, int place, int... want) {
        for (int what = 0; what < want.length; what++) {
            DUE.is("sky(" + place + ", " + what + ")", want[what], x.sky(place, what));
        }
    }

    /** Two halos at 0, 924 and 0, 3172, with speeds of -100 and 100 in y. */
    private static Halofinder twoHalos() {
        Halofinder x = Scenes.four();
        x.recipes(1000, 1000, 0);
        Scenes.keepPairs(x);
        return x;
    }

    private static void whatIsSeen() {
        Halofinder x = twoHalos();
        DUE.is("seen()", 2, x.seen());
        sky(x, 0, 0, 924, 917, 3, 1);
        sky(x, 1, 1, 924, 917, 7, 1);
        x.observe(0, 924, 1);
        DUE.is("seen from within", 1, x.seen());
        sky(x, 0, 0, 0, 0, 0, 1);
        x.observe(2048, 924, 4000);
        sky(x, 0, 0, 2048, 2048, 0, 1);
        x.observe(2047, 924, 4000);
        sky(x, 0, 0, 2047, 2047, 0, 1);
    }

    private static void edgesOfTheDepth() {
        Halofinder x = twoHalos();
        x.observe(0, 0, 925);
        DUE.is("924 is within 925", 2, x.seen());
        x.observe(0, 0, 924);
        DUE.is("but not within 924", 0, x.seen());
        x.observe(0, 0, 4000);
        DUE.is("all within 4000", 2, x.seen());
        x.observe(4095, 4095, 4000);
        sky(x, 0, 0, 925, 918, 1, 1);
    }

    private static void earlierPicturesAreFarther() {
        Halofinder x = twoHalos();
        Scenes.keepPairs(x);
        x.observe(0, 0, 600);
        DUE.is("seen in the earlier one", 2, x.seen());
        sky(x, 0, 0, 924);
        sky(x, 1, 1, 924);
        x.observe(0, 0, 924);
        DUE.is("from the depth on", 2, x.seen());
        sky(x, 0, 0, 924);
        x.observe(0, 0, 462);
        DUE.is("twice the depth is beyond", 0, x.seen());
        x.observe(0, 0, 463);
        DUE.is("less than twice is not", 2, x.seen());
        x.observe(0, 0, 925);
        sky(x, 0, 100, 924);
        sky(x, 1, 101, 924);
        x.observe(0, 1000, 1000);
        DUE.is("one in each", 2, x.seen());
        sky(x, 0, 100, 76);
        sky(x, 1, 1, 1924);
        Scenes.keepPairs(x);
        x.observe(0, 0, 400);
        DUE.is("in the one ahead of that", 2, x.seen());
        sky(x, 0, 0, 924);
    }

    private static void starlessGalaxiesAreNotSeen() {
        Halofinder x = twoHalos();
        x.recipes(1000, 0, 0);
        DUE.is("cold gas alone", 0, x.seen());
        x.recipes(5, 1000, 0);
        DUE.is("one star each", 2, x.seen());
        DUE.is("which gets a spectrum", 1, x.sky(1, 4));
        x.recipes(4, 1000, 0);
        DUE.is("no star", 0, x.seen());
        x.recipes(1000, 1000, 0);
        Scenes.keepSingles(x);
        x.observe(0, 0, 4000);
        DUE.is("grains 2 and 3 have no gas of their own", 2, x.seen());
    }

    private static int partFrom(Halofinder x, int wayX, int wayY) {
        x.observe(Math.floorMod(24 - wayX, 4096), Math.floorMod(924 - wayY, 4096), 4000);
        return x.sky(0, 3);
    }

    // Grain 0 at 24, 924 is the first halo, seen from all sides.
    private static void partsOfTheSky() {
        Halofinder x = Scenes.four();
        x.recipes(1000, 1000, 0);
        Scenes.keepSingles(x);
        int[][] parts = {{0, 0, 0}, {5, 0, 0}, {-5, 0, 0}, {0, 5, 3}, {0, -5, 7}, {5, 3, 0}, {3, 5, 1}, {-3, 5, 3},
            {-5, 3, 2}, {-5, -3, 4}, {-3, -5, 5}, {3, -5, 7}, {5, -3, 6}, {5, 5, 0}, {-5, 5, 2}, {-5, -5, 4},
            {5, -5, 6}, {-2048, -2048, 4}, {-2048, 2047, 2}, {2047, -2048, 7}, {0, -2048, 7}, {-2048, 0, 0},
            {4, 5, 1}, {-4, -5, 5}, {1, -1, 6}, {-1, 1, 2}, {9, -1, 6}, {-9, -1, 4}, {1, 9, 1}};
        for (int[] each : parts) {
            DUE.is("part at " + each[0] + ", " + each[1], each[2], partFrom(x, each[0], each[1]));
        }
    }

    private static void masks() {
        Halofinder x = twoHalos();
        x.survey(8, 0);
        DUE.is("part 3 is masked", 1, x.seen());
        sky(x, 0, 1, 924, 917, 7, 1);
        x.survey(128, 0);
        DUE.is("part 7 is masked", 1, x.seen());
        sky(x, 0, 0, 924, 917, 3, 1);
        x.survey(255 - 8 - 128, 0);
        DUE.is("all others are masked", 2, x.seen());
        x.survey(255, 0);
        DUE.is("all are masked", 0, x.seen());
        x.survey(0, 0);
        DUE.is("none is masked", 2, x.seen());
    }

    // Halo 0 has a speed of -100 in y, and moves by nothing here.
    private static void redsRoundDown() {
        Halofinder x = twoHalos();
        x.observe(0, 925, 4000);
        sky(x, 0, 0, 1, 1 + 6);
        x.observe(0, 923, 4000);
        sky(x, 0, 0, 1, 1 - 7);
        x.observe(7, 925, 4000);
        DUE.is("a way of -7, -1", 7 + 0, x.sky(0, 2));
        Halofinder y = Scenes.nine();
        y.recipes(1000, 1000, 0);
        y.link(10, 2);
        y.keep();
        y.observe(1236, 2059, 4000);
        DUE.is("a way of 10, -10", 14, y.sky(0, 1));
        DUE.is("10 times -119 and -10 times -682, by 16 times 14", 14 + 25, y.sky(0, 2));
        y.observe(1256, 2059, 4000);
        DUE.is("-10 times -119 and -10 times -682, by 16 times 14", 14 + 35, y.sky(0, 2));
        y.observe(1256, 2039, 4000);
        DUE.is("-10 times -119 and 10 times -682, by 16 times 14", 14 - 26, y.sky(0, 2));
    }

    /** Halos of 400, 200, 200, 100 stars, the first two in part 1, the others in part 2. */
    private static Halofinder fourHalos() {
        Halofinder x = Scenes.nine();
        x.recipes(1000, 1000, 0);
        x.link(10, 1);
        x.keep();
        x.observe(1000, 1000, 4000);
        return x;
    }

    private static void spectra(Halofinder x, int... want) {
        DUE.is("seen()", want.length, x.seen());
        for (int place = 0; place < want.length; place++) {
            DUE.is("spectrum at " + place, want[place], x.sky(place, 4));
        }
    }

    private static void spectraByPart() {
        Halofinder x = fourHalos();
        sky(x, 0, 0, 1077);
        sky(x, 1, 1, 762);
        sky(x, 2, 2, 1735);
        sky(x, 3, 3, 1560);
        int[] parts = {1, 1, 2, 2};
        for (int place = 0; place < 4; place++) {
            DUE.is("part of " + place, parts[place], x.sky(place, 3));
        }
        spectra(x, 1, 1, 1, 1);
        x.survey(0, 175);
        spectra(x, 1, 1, 1, 1);
        x.survey(0, 176);
        spectra(x, 1, 1, 1, 0);
        x.survey(0, 315);
        spectra(x, 1, 1, 1, 0);
        x.survey(0, 316);
        spectra(x, 1, 0, 1, 0);
        x.survey(0, 4000);
        spectra(x, 1, 0, 1, 0);
        x.survey(2, 4000);
        spectra(x, 1, 0);
        sky(x, 0, 2);
    }

    // Halo 1 is near and seen in the later picture; halo 0, with more stars, in the earlier one.
    private static void spectraByStarsOfAllPictures() {
        Halofinder x = fourHalos();
        x.link(10, 1);
        x.keep();
        x.observe(1000, 1000, 1000);
        sky(x, 0, 101, 762);
        sky(x, 1, 0, 1077);
        sky(x, 2, 2, 1735);
        sky(x, 3, 3, 1560);
        spectra(x, 1, 1, 1, 1);
        x.survey(0, 316);
        spectra(x, 0, 1, 1, 0);
        x.survey(0, 315);
        spectra(x, 1, 1, 1, 0);
    }

    private static void noSuchPlaces() {
        Halofinder x = twoHalos();
        DUE.throwsIt("sky(2, 0)", IndexOutOfBoundsException.class, () -> x.sky(2, 0));
        DUE.throwsIt("sky(-1, 0)", IndexOutOfBoundsException.class, () -> x.sky(-1, 0));
        DUE.throwsIt("sky(2, 5)", IndexOutOfBoundsException.class, () -> x.sky(2, 5));
        DUE.throwsIt("sky(0, 5)", IllegalArgumentException.class, () -> x.sky(0, 5));
        DUE.throwsIt("sky(0, -1)", IllegalArgumentException.class, () -> x.sky(0, -1));
        x.survey(255, 0);
        DUE.throwsIt("masked", IndexOutOfBoundsException.class, () -> x.sky(0, 0));
    }
}
