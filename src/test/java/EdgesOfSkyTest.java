/** 'The sky' and promises 23 to 26: a test for each sentence that names an edge, under its words. */
public final class EdgesOfSkyTest {
    private static final Due DUE = new Due("EdgesOfSkyTest");

    public static void main(String[] args) {
        observerRanges();
        surveyRanges();
        galaxiesWithStars();
        nothingIsSeen();
        sixtyFourAreSeen();
        moreThanSixtyFourAreSeen();
        fromNothingToTheDepth();
        depthsOfTwelvePictures();
        theGreatestDepth();
        emptyPicturesCount();
        middlesAreSeen();
        redsRoundDown();
        redsOfSlantedWays();
        redsOfNoDistance();
        partsOfAllWays();
        partsAreMasked();
        laterPicturesFirst();
        noFibre();
        lessThanTheFibre();
        onlyThoseWithASpectrumCount();
        onlyThoseSeenCount();
        onlyTheSamePartCounts();
        moreStarsFirst();
        alikeStarsInTheirOrder();
        placesOfTheSky();
        numbersOfTheSky();
        DUE.end();
    }

    private static Halofinder shining(Halofinder x) {
        x.recipes(1000, 1000, 0);
        x.keep();
        return x;
    }

    /** One halo at 2048, 2048 and by these two more, which are its speed too. */
    private static Halofinder oneHalo(int moreX, int moreY) {
        return shining(Scenes.oneHalo(2048 + moreX, 2048 + moreY));
    }

    /** Four halos of one grain each, 100, 1100, 1992 and 992 from 0, 2048, all in part 0. */
    private static Halofinder fourInALine() {
        Halofinder x = Scenes.inALine(100, 1100, 2104, 3104);
        x.link(1, 1);
        shining(x);
        x.observe(0, 2048, 4000);
        return x;
    }

    private static void look(Halofinder x, int what, int... want) {
        DUE.is("seen()", want.length, x.seen());
        for (int place = 0; place < want.length; place++) {
            DUE.is("sky(" + place + ", " + what + ")", want[place], x.sky(place, what));
        }
        DUE.missing("sky(" + want.length + ", " + what + ")", () -> x.sky(want.length, what));
    }

    // "x: 0 to 4095; y: 0 to 4095; depth: 1 to 4000"
    private static void observerRanges() {
        Halofinder x = oneHalo(0, 0);
        x.observe(0, 4095, 4000);
        look(x, 1, 2895);
        int[][] wrong = {{-1, 5, 5}, {4096, 5, 5}, {5, -1, 5}, {5, 4096, 5}, {5, 5, 0}, {5, 5, -1}, {5, 5, 4001},
            {Integer.MIN_VALUE, 5, 5}, {Integer.MAX_VALUE, 5, 5}, {5, Integer.MIN_VALUE, 5},
            {5, Integer.MAX_VALUE, 5}, {5, 5, Integer.MIN_VALUE}, {5, 5, Integer.MAX_VALUE}, {-1, -1, 0}};
        for (int[] each : wrong) {
            DUE.refused("observe(" + each[0] + ", " + each[1] + ", " + each[2] + ")",
                () -> x.observe(each[0], each[1], each[2]));
            look(x, 1, 2895);
        }
        x.observe(4095, 0, 4000);
        look(x, 1, 2895);
        x.observe(2048, 2048, 1);
        look(x, 1, 0);
    }

    // "mask: 0 to 255; fibre: 0 to 4000"
    private static void surveyRanges() {
        Halofinder x = fourInALine();
        x.survey(254, 4000);
        look(x, 4, 1, 0, 0, 0);
        int[][] wrong = {{-1, 0}, {256, 0}, {0, -1}, {0, 4001}, {Integer.MIN_VALUE, 0}, {Integer.MAX_VALUE, 0},
            {0, Integer.MIN_VALUE}, {0, Integer.MAX_VALUE}, {-1, -1}};
        for (int[] each : wrong) {
            DUE.refused("survey(" + each[0] + ", " + each[1] + ")", () -> x.survey(each[0], each[1]));
            look(x, 4, 1, 0, 0, 0);
        }
        x.survey(255, 0);
        look(x, 4);
        x.survey(0, 0);
        look(x, 4, 1, 1, 1, 1);
    }

    // "Galaxies with stars are seen": with one star, not with none
    private static void galaxiesWithStars() {
        Halofinder x = oneHalo(0, 0);
        x.observe(2048, 2048, 1);
        look(x, 0, 0);
        x.recipes(1000, 2, 0);
        DUE.is("800 by 1000", 0, x.galaxy(0, 0, 2));
        look(x, 0);
        x.recipes(1000, 3, 0);
        DUE.is("1200 by 1000", 1, x.galaxy(0, 0, 2));
        look(x, 0, 0);
        look(x, 4, 1);
        x.recipes(0, 1000, 5000);
        look(x, 0);
        x.recipes(1000, 500, 5000);
        look(x, 0, 0);
    }

    // "Throws IndexOutOfBoundsException if there are not so many": of none
    private static void nothingIsSeen() {
        Halofinder x = Scenes.four();
        x.recipes(1000, 1000, 0);
        look(x, 0);
        DUE.missing("sky(0, 5)", () -> x.sky(0, 5));
        DUE.missing("sky(-1, -1)", () -> x.sky(-1, -1));
        Scenes.keepNothing(x);
        look(x, 0);
        x.observe(0, 0, 4000);
        look(x, 4);
        Scenes.keepPairs(x);
        look(x, 0, 100, 101);
        x.universe(2);
        look(x, 0);
    }

    // "Returns how many galaxies are seen": of 64 halos all
    private static void sixtyFourAreSeen() {
        Halofinder x = new Halofinder();
        x.universe(8);
        x.link(1, 1);
        for (int number = 0; number < 11; number++) {
            x.keep();
        }
        shining(x);
        x.observe(2048, 2048, 4000);
        DUE.is("seen()", 64, x.seen());
        DUE.is("the first", 1100, x.sky(0, 0));
        DUE.is("the last", 1163, x.sky(63, 0));
        DUE.is("its distance: 1792 both ways", 2534, x.sky(63, 1));
        DUE.missing("sky(64, 0)", () -> x.sky(64, 0));
        x.observe(2048, 2048, 1267);
        DUE.is("each in one picture", 64, x.seen());
        DUE.is("the first one within 1267", 1118, x.sky(0, 0));
        DUE.is("the last one is twice that away", 963, x.sky(63, 0));
        x.observe(2048, 2048, 1268);
        DUE.is("less than twice", 1063, x.sky(63, 0));
    }

    // The same of grains that are seen in more than one picture, as they come nearer: as many as the Reference
    // sees, in its order.
    private static void moreThanSixtyFourAreSeen() {
        Halofinder x = new Halofinder();
        Reference y = new Reference();
        x.universe(8);
        y.universe(8);
        x.link(1, 1);
        y.link(1, 1);
        x.recipes(500, 500, 0);
        y.recipes(500, 500, 0);
        for (int turn = 0; turn < 4; turn++) {
            x.ripple(3, 3, 962, 1);
            y.ripple(3, 3, 962, 1);
        }
        int[] steps = {1, 7, 7};
        for (int many : steps) {
            x.keep();
            y.keep();
            x.step(many);
            y.step(many);
        }
        x.keep();
        y.keep();
        x.observe(3958, 309, 605);
        y.observe(3958, 309, 605);
        DUE.is("86 are seen", 86, x.seen());
        for (int place = 0; place < 86; place++) {
            for (int what = 0; what < 5; what++) {
                DUE.is("sky(" + place + ", " + what + ")", y.sky(place, what), x.sky(place, what));
            }
        }
        DUE.missing("sky(86, 0)", () -> x.sky(86, 0));
    }

    private static void seenAt(Halofinder x, int distance, int depth, int... want) {
        x.observe(2048 - distance, 2048, depth);
        look(x, 0, want);
        if (want.length > 0) {
            DUE.is("which is " + distance + " away", distance, x.sky(0, 1));
        }
    }

    // "from 0 to the depth less 1, in the one ahead of it from the depth to twice that less 1"
    private static void fromNothingToTheDepth() {
        Halofinder x = oneHalo(0, 0);
        x.keep();
        seenAt(x, 0, 100, 100);
        seenAt(x, 99, 100, 100);
        seenAt(x, 100, 100, 0);
        seenAt(x, 199, 100, 0);
        seenAt(x, 200, 100);
        x.keep();
        seenAt(x, 99, 100, 200);
        seenAt(x, 100, 100, 100);
        seenAt(x, 199, 100, 100);
        seenAt(x, 200, 100, 0);
        seenAt(x, 299, 100, 0);
        seenAt(x, 300, 100);
    }

    // "and so on": to the first of twelve, with the least depth too
    private static void depthsOfTwelvePictures() {
        Halofinder x = oneHalo(0, 0);
        for (int number = 1; number < 12; number++) {
            x.keep();
        }
        for (int distance = 0; distance < 12; distance++) {
            seenAt(x, distance, 1, 1100 - 100 * distance);
        }
        seenAt(x, 12, 1);
        seenAt(x, 1099, 100, 100);
        seenAt(x, 1100, 100, 0);
        seenAt(x, 1199, 100, 0);
        seenAt(x, 1200, 100);
    }

    // "depth: ... to 4000": no way is as long
    private static void theGreatestDepth() {
        Halofinder x = oneHalo(0, 0);
        x.keep();
        x.observe(0, 0, 4000);
        look(x, 1, 2896);
        look(x, 0, 100);
        x.observe(0, 0, 2897);
        look(x, 0, 100);
        x.observe(0, 0, 2896);
        look(x, 0, 0);
        x.observe(0, 0, 1449);
        look(x, 0, 0);
        x.observe(0, 0, 1448);
        look(x, 0);
    }

    // "in the latest picture": one without halos, too
    private static void emptyPicturesCount() {
        Halofinder x = oneHalo(0, 0);
        Scenes.keepNothing(x);
        x.link(1, 5);
        x.keep();
        seenAt(x, 0, 100);
        seenAt(x, 199, 100, 100);
        seenAt(x, 200, 100, 0);
        seenAt(x, 299, 100, 0);
        seenAt(x, 300, 100);
    }

    // "how far the middle of the halo is from the observer": of then
    private static void middlesAreSeen() {
        Halofinder x = Scenes.inALine(4094, 6, 1002, 4094);
        x.link(12, 3);
        shining(x);
        x.observe(0, 2048, 1);
        look(x, 1, 0);
        x.observe(4095, 2048, 4000);
        look(x, 1, 1);
        x.step(20);
        look(x, 1, 1);
    }

    private static void red(int speed, int want) {
        Halofinder x = oneHalo(speed, 0);
        x.observe(2048 + speed - 1, 2048, 4000);
        look(x, 2, want);
        Halofinder y = oneHalo(0, speed);
        y.observe(2048, 2048 + speed - 1, 4000);
        look(y, 2, want);
        Halofinder z = oneHalo(-speed, 0);
        z.observe(2048 - speed + 1, 2048, 4000);
        look(z, 2, want);
    }

    // "the sum of its distance and of a quotient, rounded down": a way of 1 along the speed
    private static void redsRoundDown() {
        int[][] reds = {{0, 1}, {1, 1}, {15, 1}, {16, 2}, {31, 2}, {32, 3}, {-1, 0}, {-15, 0}, {-16, 0}, {-17, -1},
            {-32, -1}, {-33, -2}};
        for (int[] each : reds) {
            red(each[0], each[1]);
        }
    }

    // "the way's x ... times the halo's speed in x, and the way's y times that in y, together"
    private static void redsOfSlantedWays() {
        int[][] reds = {{27, 0, 3, 4, 6}, {26, 0, 3, 4, 5}, {0, 20, 3, 4, 6}, {0, 19, 3, 4, 5}, {7, -9, 3, 4, 4},
            {8, 8, 1, 1, 2}, {8, 7, 1, 1, 1}, {-8, -8, 1, 1, 0}, {-8, -9, 1, 1, -1}, {16, -16, 1, 1, 1},
            {16, -16, 1, -1, 3}, {-16, 16, 1, -1, -1}};
        for (int[] each : reds) {
            Halofinder x = oneHalo(each[0], each[1]);
            x.observe(2048 + each[0] - each[2], 2048 + each[1] - each[3], 4000);
            look(x, 2, each[4]);
        }
    }

    // "or by 16 where that is 0"
    private static void redsOfNoDistance() {
        int[] speeds = {0, 1, -1, 1000, -1000};
        for (int speed : speeds) {
            Halofinder x = oneHalo(speed, -speed);
            x.observe(2048 + speed, 2048 - speed, 1);
            look(x, 2, 0);
            look(x, 3, 0);
        }
    }

    // "4 if the way's y is below 0, and 2 if ..., and 1 if ...": ways of -3 to 3, from -3 in y on
    private static void partsOfAllWays() {
        String[] parts = {"4557776", "4457766", "4447666", "0000000", "2223000", "2233100", "2333110"};
        Halofinder x = oneHalo(0, 0);
        for (int y = -3; y <= 3; y++) {
            for (int each = -3; each <= 3; each++) {
                x.observe(2048 - each, 2048 - y, 4000);
                DUE.is("part of " + each + ", " + y, parts[y + 3].charAt(each + 3) - '0', x.sky(0, 3));
            }
        }
        int[][] far = {{-2048, -2048, 4}, {-2048, 2047, 2}, {2047, -2048, 7}, {-2048, 0, 0}, {0, -2048, 7},
            {2047, 2047, 0}, {-2047, -2048, 5}, {2046, 2047, 1}};
        for (int[] each : far) {
            x.observe(Math.floorMod(2048 - each[0], 4096), Math.floorMod(2048 - each[1], 4096), 4000);
            DUE.is("part of " + each[0] + ", " + each[1], each[2], x.sky(0, 3));
        }
    }

    // "Parts can be masked; galaxies there are not seen"
    private static void partsAreMasked() {
        int[][] ways = {{2, 1}, {1, 2}, {-2, 1}, {-1, 2}, {-2, -1}, {-1, -2}, {2, -1}, {1, -2}};
        Halofinder x = oneHalo(0, 0);
        for (int part = 0; part < 8; part++) {
            x.observe(2048 - ways[part][0], 2048 - ways[part][1], 4000);
            x.survey(0, 0);
            look(x, 3, part);
            x.survey(255 - (1 << part), 0);
            look(x, 3, part);
            x.survey(1 << part, 0);
            look(x, 3);
            x.survey(255, 0);
            look(x, 3);
        }
    }

    // "Those seen are in the order of pictures, the latest first, then of halos"
    private static void laterPicturesFirst() {
        Halofinder x = fourInALine();
        x.keep();
        x.observe(0, 2048, 1000);
        look(x, 0, 100, 103, 1, 2);
        look(x, 1, 100, 992, 1100, 1992);
        x.observe(0, 2048, 992);
        look(x, 0, 100, 1, 3);
        x.observe(0, 2048, 993);
        look(x, 0, 100, 103, 1);
        x.observe(0, 2048, 996);
        look(x, 0, 100, 103, 1);
        x.observe(0, 2048, 997);
        look(x, 0, 100, 103, 1, 2);
    }

    private static void spectra(Halofinder x, int fibre, int... want) {
        x.survey(0, fibre);
        look(x, 4, want);
    }

    // "differs by less than the fibre": by less than 0 none does, though all are in one place
    private static void noFibre() {
        Halofinder x = Scenes.inALine(500, 500, 500, 500);
        x.link(1, 4);
        shining(x);
        x.keep();
        x.observe(0, 2048, 500);
        spectra(x, 0, 1);
        Halofinder y = Scenes.inALine(3596, 500, 500, 3596);
        y.link(1, 1);
        shining(y);
        y.observe(0, 2048, 4000);
        look(y, 1, 500, 500);
        spectra(y, 0, 1, 1);
        spectra(y, 1, 1, 0);
    }

    // "has a distance that differs by less than the fibre": farther or nearer
    private static void lessThanTheFibre() {
        Halofinder x = fourInALine();
        look(x, 1, 100, 1100, 1992, 992);
        spectra(x, 108, 1, 1, 1, 1);
        spectra(x, 109, 1, 1, 1, 0);
        spectra(x, 892, 1, 1, 1, 0);
        spectra(x, 893, 1, 1, 0, 0);
        spectra(x, 1000, 1, 1, 0, 0);
    }

    // "for which no galaxy of the same part with a spectrum": one without does not count
    private static void onlyThoseWithASpectrumCount() {
        Halofinder x = fourInALine();
        spectra(x, 1001, 1, 0, 1, 0);
        spectra(x, 1892, 1, 0, 1, 0);
        spectra(x, 1893, 1, 0, 0, 0);
        spectra(x, 4000, 1, 0, 0, 0);
    }

    // "to each galaxy that is seen": one that is not does not count
    private static void onlyThoseSeenCount() {
        Halofinder x = fourInALine();
        x.observe(0, 2048, 1000);
        spectra(x, 500, 1, 1);
        spectra(x, 892, 1, 1);
        spectra(x, 893, 1, 0);
    }

    // "of the same part"
    private static void onlyTheSamePartCounts() {
        Halofinder x = Scenes.four();
        Scenes.keepPairs(x);
        x.recipes(1000, 1000, 0);
        look(x, 1, 924, 924);
        look(x, 3, 3, 7);
        spectra(x, 4000, 1, 1);
    }

    // "Spectra are given by falling stars": 200 in picture 0, 1400 away, 100 in picture 1, 400 away
    private static void moreStarsFirst() {
        Halofinder x = Scenes.inALine(100, 1100, 3100, 100);
        x.link(1, 1);
        shining(x);
        x.keep();
        x.observe(1500, 2048, 1000);
        look(x, 0, 101, 0, 2);
        look(x, 1, 400, 1400, 1600);
        spectra(x, 200, 1, 1, 1);
        spectra(x, 201, 1, 1, 0);
        spectra(x, 1000, 1, 1, 0);
        spectra(x, 1001, 0, 1, 0);
    }

    // "of alike ones in this order": 992 away in picture 1 is ahead of 1100 away in picture 0
    private static void alikeStarsInTheirOrder() {
        Halofinder x = fourInALine();
        x.keep();
        x.observe(0, 2048, 1000);
        look(x, 1, 100, 992, 1100, 1992);
        spectra(x, 108, 1, 1, 1, 1);
        spectra(x, 109, 1, 1, 0, 1);
        spectra(x, 893, 1, 0, 1, 0);
    }

    // "place: 0 for the first one"
    private static void placesOfTheSky() {
        Halofinder x = fourInALine();
        int[] none = {4, -1, 64, Integer.MIN_VALUE, Integer.MAX_VALUE};
        for (int place : none) {
            DUE.missing("sky(" + place + ", 0)", () -> x.sky(place, 0));
            DUE.missing("sky(" + place + ", 5)", () -> x.sky(place, 5));
            DUE.missing("sky(" + place + ", -1)", () -> x.sky(place, -1));
        }
        DUE.is("the last", 3, x.sky(3, 0));
    }

    // "what: 0 ... 4": "Throws IllegalArgumentException if what is out of range"
    private static void numbersOfTheSky() {
        Halofinder x = fourInALine();
        int[] wrong = {-1, 5, Integer.MIN_VALUE, Integer.MAX_VALUE};
        for (int what : wrong) {
            DUE.refused("sky(3, " + what + ")", () -> x.sky(3, what));
        }
        int[] right = {3, 992, 992 - 2, 0, 1};
        for (int what = 0; what < 5; what++) {
            DUE.is("sky(3, " + what + ")", right[what], x.sky(3, what));
        }
    }
}
