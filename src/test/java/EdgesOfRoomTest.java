/**
 * 'Room, grains', 'Ripples' and promises 1 to 5: a test for each sentence that names an edge, under its
 * words.
 */
public final class EdgesOfRoomTest {
    private static final Due DUE = new Due("EdgesOfRoomTest");
    private static final int[][] LATTICE = {{1024, 3072}, {682, 2048, 3413}, {512, 1536, 2560, 3584},
        {409, 1228, 2048, 2867, 3686}, {341, 1024, 1706, 2389, 3072, 3754},
        {292, 877, 1462, 2048, 2633, 3218, 3803}, {256, 768, 1280, 1792, 2304, 2816, 3328, 3840}};

    public static void main(String[] args) {
        ripplesGoRoundTheRoom();
        stepsGoRoundTheRoom();
        waysOfHalfTheRoom();
        howFarIsWhole();
        latticesOfEachSide();
        newObjectsAreAsTold();
        newGrainsAreNotHeld();
        newHalosHaveTwoGrains();
        newObserversSeeAThousand();
        newSkiesAreUnmasked();
        newSkiesHaveNoFibre();
        sidesAreTwoToEight();
        smallerUniversesForgetGrains();
        universesEndAgesAndPictures();
        whatWasToldStays();
        rippleRanges();
        oneKMayBeNothing();
        remaindersAreNotBelowNothing();
        phasesAreRoundedDown();
        movesDropTheRest();
        ripplesNeedTheFirstAge();
        drawRanges();
        drawnSeedsStayInTheirModulus();
        drawnWavesAreTwelve();
        drawnAmplitudesDropTheRest();
        drawsNeedTheFirstAge();
        grainNumbers();
        grainsOfPictures();
        DUE.end();
    }

    // "places have an x and a y, 0 to 4095, taken modulo 4096"
    private static void ripplesGoRoundTheRoom() {
        int[][] places = {{4095, 4095}, {4096, 0}, {4097, 1}, {0, 0}, {-1, 4095}, {-4096, 0}, {-4097, 4095},
            {8191, 4095}, {8192, 0}};
        for (int[] each : places) {
            Halofinder x = Scenes.oneHalo(each[0], 5);
            DUE.is("x of " + each[0], each[1], x.grain(-1, 0, 0));
            DUE.is("its speed stays whole", each[0] - 1024, x.grain(-1, 0, 2));
            Halofinder y = Scenes.oneHalo(5, each[0]);
            DUE.is("y of " + each[0], each[1], y.grain(-1, 3, 1));
            DUE.is("its speed stays whole", each[0] - 3072, y.grain(-1, 3, 3));
        }
    }

    private static void stepped(int xs, int ys, int want) {
        Halofinder x = Scenes.placed(new int[] {xs, xs, xs, xs}, new int[] {ys, ys, ys, ys});
        x.step(1);
        DUE.is("x of grain 0 from " + xs, want, x.grain(-1, 0, 0));
        Halofinder y = Scenes.placed(new int[] {ys, ys, ys, ys}, new int[] {xs, xs, xs, xs});
        y.step(1);
        DUE.is("y of grain 0 from " + xs, want, y.grain(-1, 0, 1));
    }

    // "taken modulo 4096": grain 0 has a speed of its place less 1024, and moves by that by 16.
    private static void stepsGoRoundTheRoom() {
        stepped(3915, 9, 4095);
        stepped(3916, 9, 0);
        stepped(61, 9, 1);
        stepped(60, 9, 0);
        stepped(59, 9, 4095);
        stepped(1024 + 65552, 9, 1024 + 16 + 1);
        stepped(1024 - 65552, 9, 1024 - 16 - 1);
    }

    private static long redFrom(Halofinder x, int eyeX, int eyeY) {
        x.observe(eyeX, eyeY, 4000);
        return x.sky(0, 2);
    }

    private static Halofinder shining(int xs, int ys) {
        Halofinder x = Scenes.oneHalo(xs, ys);
        x.recipes(1000, 1000, 0);
        x.keep();
        return x;
    }

    // "each is from -2048 to 2047 (what is 2048 away is -2048 whichever way one goes)"
    private static void waysOfHalfTheRoom() {
        Halofinder x = shining(2048 + 320, 2048);
        DUE.is("2046 away to the right", 2046 + 20, redFrom(x, 322, 2048));
        DUE.is("2047 away to the right", 2047 + 20, redFrom(x, 321, 2048));
        DUE.is("2048 away is to the left", 2048 - 20, redFrom(x, 320, 2048));
        DUE.is("2047 away to the left", 2047 - 20, redFrom(x, 319, 2048));
        Halofinder y = shining(2048, 2048 - 320);
        DUE.is("2047 away below, in y", 2047 + 20, redFrom(y, 2048, 1728 + 2047));
        DUE.is("2048 away is below, too", 2048 + 20, redFrom(y, 2048, 1728 + 2048));
        DUE.is("2047 away above", 2047 - 20, redFrom(y, 2048, 1728 - 2047 + 4096));
        Halofinder z = new Halofinder();
        z.link(1024, 16);
        DUE.is("of ways of 0, 1024, -2048, -1024 the middle in x", 512 - 512, z.ofHalo(-1, 0, 1));
        DUE.is("likewise in y", 512 - 512, z.ofHalo(-1, 0, 2));
    }

    // "the greatest whole number of which the square is not above the sum of the squares of these"
    private static void howFarIsWhole() {
        int[][] ways = {{0, 0, 0}, {1, 0, 1}, {0, -1, 1}, {1, 1, 1}, {1, -2, 2}, {2, 2, 2}, {0, 3, 3}, {3, 3, 4},
            {3, 4, 5}, {4, 3, 5}, {4, 4, 5}, {-4, -5, 6}, {5, 5, 7}, {7, 7, 9}, {6, 8, 10}, {20, 20, 28},
            {20, 21, 29}, {20, 22, 29}, {119, 120, 169}, {119, 119, 168}, {2047, 0, 2047}, {0, -2048, 2048},
            {-2048, 1, 2048}, {-2048, 64, 2048}, {-2048, 65, 2049}, {2047, 2047, 2894}, {-2048, -2048, 2896}};
        Halofinder x = shining(2048, 2048);
        for (int[] each : ways) {
            x.observe(Math.floorMod(2048 - each[0], 4096), Math.floorMod(2048 - each[1], 4096), 4000);
            DUE.is("how far " + each[0] + ", " + each[1] + " is", each[2], x.sky(0, 1));
        }
    }

    // "the grain n i + j ... is at first in its lattice place, x 2048 times 2 i and 1, together, by n"
    private static void latticesOfEachSide() {
        for (int side = 2; side <= 8; side++) {
            Halofinder x = new Halofinder();
            DUE.is("universe(" + side + ")", side * side, x.universe(side));
            for (int grain = 0; grain < side * side; grain++) {
                DUE.is("x of " + grain, LATTICE[side - 2][grain / side], x.grain(-1, grain, 0));
                DUE.is("y of " + grain, LATTICE[side - 2][grain % side], x.grain(-1, grain, 1));
                DUE.is("its speed in x", 0, x.grain(-1, grain, 2));
                DUE.is("its speed in y", 0, x.grain(-1, grain, 3));
            }
            int behind = side * side;
            DUE.missing("a grain behind the last", () -> x.grain(-1, behind, 0));
        }
    }

    // "A universe of the side 4, with g 0, ..., a length of 200, a least number of 2; recipes ... of 0"
    private static void newObjectsAreAsTold() {
        Halofinder x = new Halofinder();
        DUE.is("the last of 16 grains", 3584, x.grain(-1, 15, 1));
        DUE.missing("no more", () -> x.grain(-1, 16, 1));
        DUE.is("g 0", 0, x.force(0, true, false));
        x.ripple(1, 0, 824, 2);
        DUE.is("200 away is linked", 4, x.halos(-1));
        x.universe(4);
        x.ripple(1, 0, 823, 2);
        DUE.is("201 away is not, and one grain is not enough", 0, x.halos(-1));
        x.universe(4);
        x.ripple(1, 0, 824, 2);
        DUE.is("the first picture", 0, x.keep());
        DUE.is("gas that stays hot", 300, x.galaxy(0, 0, 0));
        DUE.is("the age was 1", 2, x.step(1));
    }

    // "with g 0": the last grain has a push of 2072776, the first of 2072680; with g 1 they would have holds
    // of 67 and 9, and the first would go first.
    private static void newGrainsAreNotHeld() {
        Halofinder x = Scenes.placed(new int[] {2056, 2048, 2080, 2080}, new int[] {2048, 2056, 2048, 2048});
        x.link(100, 4);
        DUE.is("bound with the g of a new object", 4, x.bound(-1, 0));
        x.pull(1, 100);
        DUE.is("bound with g 1", 8, x.bound(-1, 0));
        x.pull(0, 100);
        DUE.is("bound with g 0", 4, x.bound(-1, 0));
    }

    // "a least number of 2": two pairs, 48 apart
    private static void newHalosHaveTwoGrains() {
        Halofinder x = new Halofinder();
        x.universe(2);
        x.ripple(1, 0, 1000, 4);
        DUE.is("halos of two grains", 2, x.halos(-1));
        x.ripple(1, 0, 1000, 4);
        DUE.is("none of one grain", 0, x.halos(-1));
    }

    // "the observer at 0, 0 with a depth of 1000"
    private static void newObserversSeeAThousand() {
        DUE.is("999 away in x", 1, shining(999, 0).seen());
        DUE.is("1000 away in x", 0, shining(1000, 0).seen());
        DUE.is("999 away in y", 1, shining(0, -999).seen());
        DUE.is("1000 away in y", 0, shining(0, -1000).seen());
        DUE.is("from 0, 0", 5, shining(3, 4).sky(0, 1));
        DUE.is("from 0, 0 to the left", 5, shining(-3, -4).sky(0, 1));
    }

    // "recipes, fibre and mask of 0": two as far in part 0
    private static void newSkiesHaveNoFibre() {
        Halofinder x = Scenes.placed(new int[] {3596, 500, 500, 3596}, new int[] {0, 0, 0, 0});
        x.link(1, 1);
        x.recipes(1000, 1000, 0);
        x.keep();
        DUE.is("two are seen", 2, x.seen());
        DUE.is("the first has a spectrum", 1, x.sky(0, 4));
        DUE.is("the second too", 1, x.sky(1, 4));
    }

    // "recipes, fibre and mask of 0; the observer at 0, 0 with a depth of 1000": ways of 256 and 768.
    private static void newSkiesAreUnmasked() {
        Halofinder x = new Halofinder();
        x.universe(8);
        x.link(1, 1);
        x.recipes(1000, 1000, 0);
        x.keep();
        DUE.is("362 and 809 away, not 1086", 12, x.seen());
        int[] halos = {0, 1, 6, 7, 8, 15, 48, 55, 56, 57, 62, 63};
        int[] parts = {0, 1, 7, 6, 0, 6, 2, 4, 2, 3, 5, 4};
        for (int place = 0; place < 12; place++) {
            DUE.is("halo at " + place, halos[place], x.sky(place, 0));
            DUE.is("part at " + place, parts[place], x.sky(place, 3));
            DUE.is("spectrum at " + place, 1, x.sky(place, 4));
        }
    }

    // "side: 2 to 8"
    private static void sidesAreTwoToEight() {
        Halofinder x = new Halofinder();
        int[] wrong = {1, 9, 0, -1, -2, 10, 16, Integer.MIN_VALUE, Integer.MAX_VALUE};
        for (int side : wrong) {
            DUE.refused("universe(" + side + ")", () -> x.universe(side));
            DUE.is("the one before is still there", 3584, x.grain(-1, 15, 0));
        }
        DUE.is("universe(2)", 4, x.universe(2));
        DUE.is("universe(8)", 64, x.universe(8));
    }

    // "Begins anew": nothing is left of grains that are not there now.
    private static void smallerUniversesForgetGrains() {
        Halofinder x = new Halofinder();
        x.universe(8);
        x.pull(10000, 10);
        x.ripple(1, 1, 1000, 3);
        x.link(2000, 1);
        x.keep();
        x.universe(2);
        DUE.missing("grain 4", () -> x.grain(-1, 4, 0));
        DUE.missing("force 4", () -> x.force(4, true, false));
        DUE.is("pairs", 6, x.pairs(0, 4096));
        DUE.is("void", 60, x.voidCells());
        DUE.is("momentum", 0, x.momentum(true));
        DUE.is("halos", 4, x.halos(-1));
        DUE.is("halos anew", 4, x.halosAnew(-1));
        DUE.is("force by cells", -6, x.force(0, true, true));
        DUE.is("keep()", 0, x.keep());
        DUE.missing("grain 4 then", () -> x.grain(0, 4, 0));
        DUE.is("grain 3 then", 3072, x.grain(0, 3, 0));
        DUE.is("gas", 400, x.kept());
    }

    // "the age is 1, pictures are gone": of the last age, and of twelve of them.
    private static void universesEndAgesAndPictures() {
        Halofinder x = Scenes.four();
        Scenes.keepPairs(x);
        for (int number = 1; number < 12; number++) {
            x.keep();
        }
        for (int turn = 0; turn < 49; turn++) {
            x.step(20);
        }
        DUE.is("the last age", 1000, x.step(19));
        x.universe(2);
        for (int picture = 0; picture < 12; picture++) {
            int gone = picture;
            DUE.missing("picture " + gone, () -> x.grain(gone, 0, 0));
            DUE.missing("halos of " + gone, () -> x.halos(gone));
            DUE.missing("next of " + gone, () -> x.next(gone, 0));
        }
        DUE.is("nothing is kept", 0, x.kept());
        DUE.is("nothing is seen", 0, x.seen());
        x.ripple(1, 0, 1000, 4);
        DUE.is("twenty steps", 21, x.step(20));
        DUE.is("the first picture", 0, x.keep());
        DUE.is("which goes on in nothing", -1, x.next(0, 0));
        DUE.is("and comes from nothing", -1, x.from(0, 0));
        DUE.is("its gas is new", 100 * x.ofHalo(0, 0, 0), x.galaxy(0, 0, 0));
    }

    // "all that was told below stays": halos at 0, 924 and 0, 3172, seen from 5, 1124.
    private static void whatWasToldStays() {
        Halofinder x = new Halofinder();
        x.pull(9999, 11);
        x.link(48, 2);
        x.recipes(900, 800, 200);
        x.observe(5, 1124, 2300);
        x.survey(4, 1849);
        x.universe(8);
        x.universe(2);
        x.ripple(1, 0, 1000, 4);
        x.ripple(0, 1, 100, 4);
        DUE.is("g and softness: 479952 by 2425", -197, x.force(0, true, false));
        DUE.is("length and least number", 2, x.halos(-1));
        x.keep();
        DUE.is("cooling", 20, x.galaxy(0, 0, 0));
        DUE.is("forming", 144, x.galaxy(0, 0, 2));
        DUE.is("wind", 28, x.galaxy(0, 0, 3));
        DUE.is("depth", 2, x.seen());
        DUE.is("observer", 200, x.sky(0, 1));
        DUE.is("the first spectrum", 1, x.sky(0, 4));
        DUE.is("fibre: 2048 less 200 is below 1849", 0, x.sky(1, 4));
        x.observe(7, 920, 2300);
        DUE.is("mask: a way of -7, 4 is in part 2", 1, x.seen());
    }

    // "kx: -3 to 3; ky: -3 to 3; amplitude: -1000 to 1000; phase: 0 to 15"
    private static void rippleRanges() {
        Halofinder x = new Halofinder();
        x.universe(2);
        int[][] right = {{2, 0, 64, 0, -128, 0}, {2, 0, 64, 15, -118, 0}, {-3, -3, 1000, 8, -3000, -3000},
            {3, 3, -1000, 8, -3000, -3000}, {-3, 3, 1000, 0, -3000, 3000}, {3, -3, -1000, 0, -3000, 3000}};
        for (int[] each : right) {
            x.universe(2);
            x.ripple(each[0], each[1], each[2], each[3]);
            DUE.is("x by " + each[0] + ", " + each[1], each[4], x.grain(-1, 0, 2));
            DUE.is("y by " + each[0] + ", " + each[1], each[5], x.grain(-1, 0, 3));
        }
        int[][] wrong = {{-4, 1, 64, 0}, {4, 1, 64, 0}, {1, -4, 64, 0}, {1, 4, 64, 0}, {1, 1, -1001, 0},
            {1, 1, 1001, 0}, {1, 1, 64, -1}, {1, 1, 64, 16}, {0, 0, 64, 0}, {0, 0, 0, 0},
            {Integer.MIN_VALUE, 1, 1, 1}, {1, Integer.MAX_VALUE, 1, 1}, {1, 1, Integer.MIN_VALUE, 1},
            {1, 1, 1, Integer.MAX_VALUE}};
        for (int[] each : wrong) {
            DUE.refused("ripple(" + each[0] + ", " + each[1] + ", " + each[2] + ", " + each[3] + ")",
                () -> x.ripple(each[0], each[1], each[2], each[3]));
            DUE.is("which moves nothing", -3000, x.grain(-1, 0, 2));
        }
    }

    // "if ... both k are 0": one of them may be.
    private static void oneKMayBeNothing() {
        Halofinder x = new Halofinder();
        x.universe(2);
        x.ripple(0, 1, 100, 12);
        DUE.is("k 0 in x moves nothing there", 1024, x.grain(-1, 0, 0));
        DUE.is("but in y", 1124, x.grain(-1, 0, 1));
        x.ripple(1, 0, 100, 12);
        DUE.is("k 0 in y: now in x", 1124, x.grain(-1, 0, 0));
        DUE.is("not in y", 1124, x.grain(-1, 0, 1));
        DUE.refused("both 0", () -> x.ripple(0, 0, 100, 12));
    }

    // "the remainder by 16, not below 0": phases of -24 to 47 here.
    private static void remaindersAreNotBelowNothing() {
        int[] row = {64, 59, 45, 24, 0, -24, -45, -59, -64, -59, -45, -24, 0, 24, 45, 59};
        Halofinder x = new Halofinder();
        for (int phase = 0; phase < 16; phase++) {
            x.universe(2);
            x.ripple(-3, -3, 64, phase);
            DUE.is("-24 and " + phase, -3 * row[(8 + phase) % 16], x.grain(-1, 0, 2));
            x.universe(2);
            x.ripple(-1, 0, 64, phase);
            DUE.is("-4 and " + phase, -row[(12 + phase) % 16], x.grain(-1, 1, 2));
            x.universe(2);
            x.ripple(3, 3, 64, phase);
            DUE.is("72 and " + phase, 3 * row[(8 + phase) % 16], x.grain(-1, 3, 3));
        }
    }

    // "(16 times k in x times x, and 16 times k in y times y, together, divided by 4096, rounded down)"
    private static void phasesAreRoundedDown() {
        Halofinder x = new Halofinder();
        x.universe(3);
        x.ripple(1, 0, 64, 0);
        DUE.is("2.66 is 2", 45, x.grain(-1, 0, 2));
        DUE.is("8 is 8", -64, x.grain(-1, 3, 2));
        DUE.is("13.33 is 13", 24, x.grain(-1, 6, 2));
        x.universe(3);
        x.ripple(-1, 0, 64, 0);
        DUE.is("-2.66 is -3", -24, x.grain(-1, 0, 2));
        DUE.is("-8 is -8", 64, x.grain(-1, 3, 2));
        DUE.is("-13.33 is -14", -45, x.grain(-1, 6, 2));
        x.universe(3);
        x.ripple(1, -1, 64, 0);
        DUE.is("2.66 less 13.33 is -10.67, so -11", -24, x.grain(-1, 2, 2));
    }

    // "by 64", with the rest dropped, towards 0: w is 24 in the first column, -24 in the other.
    private static void movesDropTheRest() {
        int[][] moves = {{1, 0}, {2, 0}, {3, 1}, {5, 1}, {6, 2}, {8, 3}, {-1, 0}, {-2, 0}, {-3, -1}, {-5, -1},
            {-6, -2}, {-8, -3}, {0, 0}};
        Halofinder x = new Halofinder();
        for (int[] each : moves) {
            x.universe(2);
            x.ripple(1, 0, each[0], 15);
            DUE.is("an amplitude of " + each[0], each[1], x.grain(-1, 0, 2));
            DUE.is("moves likewise", 1024 + each[1], x.grain(-1, 0, 0));
            DUE.is("and the other way", -each[1], x.grain(-1, 2, 2));
        }
        x.universe(2);
        x.ripple(3, 0, 1, 7);
        DUE.is("24 times 3 is 72 before it is divided", 1, x.grain(-1, 0, 2));
    }

    // "Throws IllegalStateException if the age is not 1"
    private static void ripplesNeedTheFirstAge() {
        Halofinder x = new Halofinder();
        x.ripple(1, 0, 100, 0);
        x.step(1);
        DUE.tooLate("at the age 2", () -> x.ripple(1, 0, 100, 0));
        DUE.refused("a wrong one at the age 2", () -> x.ripple(0, 0, 100, 0));
        DUE.refused("a wrong phase at the age 2", () -> x.ripple(1, 0, 100, 16));
        x.step(20);
        DUE.tooLate("at the age 22", () -> x.ripple(1, 0, 0, 0));
        DUE.is("nothing was added", 70, x.grain(-1, 0, 2));
        x.universe(4);
        x.ripple(1, 0, 100, 0);
        DUE.is("at the age 1 again", 70, x.grain(-1, 0, 2));
    }

    // "seed: 0 at least; power: 0 to 1000"
    private static void drawRanges() {
        Halofinder x = new Halofinder();
        DUE.refused("draw(-1, 5)", () -> x.draw(-1, 5));
        DUE.refused("draw(-2147483648, 5)", () -> x.draw(Integer.MIN_VALUE, 5));
        DUE.refused("draw(5, -1)", () -> x.draw(5, -1));
        DUE.refused("draw(5, 1001)", () -> x.draw(5, 1001));
        DUE.refused("draw(5, 2147483647)", () -> x.draw(5, Integer.MAX_VALUE));
        DUE.refused("draw(-1, -1)", () -> x.draw(-1, -1));
        DUE.is("none moved a grain", 512, x.grain(-1, 0, 0));
        x.draw(0, 0);
        x.draw(Integer.MAX_VALUE, 0);
        DUE.is("a power of 0 moves none", 512, x.grain(-1, 0, 0));
        DUE.is("nor in y", 512, x.grain(-1, 0, 1));
        DUE.is("draw(0, 1000)", 1772930244, x.draw(0, 1000));
        DUE.is("draw(2147483647, 1000)", 561616019, x.draw(Integer.MAX_VALUE, 1000));
    }

    // "modulo 2147483648": what is returned is never below 0, and the greatest seed is no other one.
    private static void drawnSeedsStayInTheirModulus() {
        int[][] seeds = {{0, 1772930244}, {1, 836760821}, {2147483646, 1497785442},
            {2147483647, 561616019}, {7, 1662195227}};
        Halofinder x = new Halofinder();
        for (int[] each : seeds) {
            DUE.is("draw(" + each[0] + ", 1000)", each[1], x.draw(each[0], 1000));
        }
    }

    private static void sameGrains(String what, Halofinder want, Halofinder got) {
        for (int grain = 0; grain < 64; grain++) {
            for (int asked = 0; asked < 4; asked++) {
                DUE.is(what + ", grain " + grain, want.grain(-1, grain, asked), got.grain(-1, grain, asked));
            }
        }
    }

    // "for k in x 0, 1, 2, for each of these k in y -2 to 2, but not where both are 0, nor k in x is 0 and
    // k in y below that": the numbers are 19564 9806 10868 22674 32531 3365 32034 31790 7985 10913 11213
    // 25363.
    private static void drawnWavesAreTwelve() {
        int[][] waves = {{0, 1, 1000, 6}, {0, 2, 250, 7}, {1, -2, 200, 10}, {1, -1, 500, 9}, {1, 0, -1000, 9},
            {1, 1, -500, 2}, {1, 2, 200, 1}, {2, -2, 125, 7}, {2, -1, -200, 8}, {2, 0, -250, 0},
            {2, 1, -200, 6}, {2, 2, -125, 9}};
        Halofinder told = new Halofinder();
        told.universe(8);
        for (int[] wave : waves) {
            told.ripple(wave[0], wave[1], wave[2], wave[3]);
        }
        Halofinder drawn = new Halofinder();
        drawn.universe(8);
        drawn.draw(7, 1000);
        sameGrains("draw(7, 1000)", told, drawn);
    }

    // "the amplitude of the power by the squares of both k, together, below 0 if the number is odd": 7 by 8
    // is 0, and 7 by 5 and by 4 is 1.
    private static void drawnAmplitudesDropTheRest() {
        int[][] waves = {{0, 1, -7, 12}, {0, 2, -1, 12}, {1, -2, 1, 3}, {1, -1, 3, 15}, {1, 0, -7, 4},
            {1, 1, 3, 1}, {1, 2, 1, 12}, {2, -1, 1, 0}, {2, 0, 1, 15}, {2, 1, -1, 6}};
        Halofinder told = new Halofinder();
        told.universe(8);
        for (int[] wave : waves) {
            told.ripple(wave[0], wave[1], wave[2], wave[3]);
        }
        Halofinder drawn = new Halofinder();
        drawn.universe(8);
        drawn.draw(Integer.MAX_VALUE, 7);
        sameGrains("draw(2147483647, 7)", told, drawn);
    }

    // "Throws IllegalStateException if the age is not 1"
    private static void drawsNeedTheFirstAge() {
        Halofinder x = new Halofinder();
        x.step(1);
        DUE.tooLate("at the age 2", () -> x.draw(5, 500));
        DUE.tooLate("without power", () -> x.draw(5, 0));
        DUE.refused("a wrong seed at the age 2", () -> x.draw(-1, 500));
        DUE.refused("a wrong power at the age 2", () -> x.draw(5, 1001));
        DUE.is("nothing moved", 512, x.grain(-1, 0, 0));
        x.universe(4);
        DUE.is("at the age 1 again", 1662195227, x.draw(7, 500));
    }

    // "grain: its number; what: 0 x, 1 y, 2 the speed in x, 3 the speed in y"
    private static void grainNumbers() {
        Halofinder x = new Halofinder();
        x.universe(8);
        x.ripple(0, 1, 64, 15);
        DUE.is("x of the first grain", 256, x.grain(-1, 0, 0));
        DUE.is("y of the last grain", 3840 + 45, x.grain(-1, 63, 1));
        DUE.is("its speed in x", 0, x.grain(-1, 63, 2));
        DUE.is("its speed in y", 45, x.grain(-1, 63, 3));
        int[] none = {64, -1, Integer.MAX_VALUE, Integer.MIN_VALUE};
        for (int grain : none) {
            DUE.missing("grain " + grain, () -> x.grain(-1, grain, 0));
            DUE.missing("which goes first", () -> x.grain(-1, grain, 4));
        }
        int[] wrong = {4, -1, Integer.MAX_VALUE, Integer.MIN_VALUE};
        for (int what : wrong) {
            DUE.refused("what " + what, () -> x.grain(-1, 63, what));
        }
    }

    // "picture: its number, or NONE for now"
    private static void grainsOfPictures() {
        Halofinder x = Scenes.oneHalo(2064, 2048);
        DUE.missing("no picture yet", () -> x.grain(0, 0, 0));
        for (int number = 0; number < 12; number++) {
            x.keep();
            x.step(1);
            int next = number + 1;
            DUE.missing("one behind the last", () -> x.grain(next, 0, 0));
        }
        DUE.is("grain 0 in the first picture", 2064, x.grain(0, 0, 0));
        DUE.is("its speed of 1040 by 16, 32 and so on", 2064 + 65 + 32 + 21 + 16 + 13 + 10 + 9 + 8 + 7 + 6 + 5,
            x.grain(11, 0, 0));
        DUE.is("now", 2064 + 65 + 32 + 21 + 16 + 13 + 10 + 9 + 8 + 7 + 6 + 5 + 5, x.grain(Halofinder.NONE, 0, 0));
        int[] none = {-2, 12, Integer.MAX_VALUE, Integer.MIN_VALUE};
        for (int picture : none) {
            DUE.missing("picture " + picture, () -> x.grain(picture, 0, 0));
            DUE.missing("which goes first", () -> x.grain(picture, 0, 4));
        }
        DUE.missing("no grain of a picture", () -> x.grain(11, 4, 0));
        DUE.missing("which goes first", () -> x.grain(11, -1, -1));
        DUE.refused("no number of a picture", () -> x.grain(11, 3, 4));
    }
}
