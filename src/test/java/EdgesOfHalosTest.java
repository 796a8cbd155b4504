/** 'Halos' and promises 10 to 15: a test for each sentence that names an edge, under its words. */
public final class EdgesOfHalosTest {
    private static final Due DUE = new Due("EdgesOfHalosTest");

    public static void main(String[] args) {
        linkRanges();
        linksOverTheWholeLength();
        linksOfOnePlace();
        linksAcrossTheEdge();
        linksOverTheGreatestLength();
        linksInAChain();
        leastNumbers();
        noHalos();
        sixtyFourGrains();
        sixtyFourHalos();
        halosOfAsManyGrains();
        halosOfPictures();
        picturesKeepLengthAndLeast();
        haloNumbers();
        numbersOfAHalo();
        middlesOfOne();
        middlesRoundDown();
        middlesStayInTheRoom();
        middlesByTheWaysFromTheLowest();
        speedsRoundDown();
        spinsHaveSigns();
        oneAloneIsBound();
        twiceTheHoldIsEnough();
        twiceTheHoldOverAWay();
        ofSeveralTheLowest();
        thoseStillThereAnew();
        theMostAboveGoesFirst();
        theirSpeedIsRoundedDown();
        boundWithGAsNow();
        allAreBound();
        DUE.end();
    }

    private static void halos(String of, int want, Halofinder x) {
        DUE.is(of, want, x.halos(-1));
        DUE.is(of + ", anew", want, x.halosAnew(-1));
    }

    // "length: 1 to 2000; least: 1 to 64"
    private static void linkRanges() {
        Halofinder x = Scenes.inALine(100, 102, 102, 100);
        x.link(1, 1);
        halos("link(1, 1)", 2, x);
        int[][] wrong = {{0, 1}, {-1, 1}, {2001, 1}, {1, 0}, {1, -1}, {1, 65}, {Integer.MIN_VALUE, 1},
            {Integer.MAX_VALUE, 1}, {1, Integer.MIN_VALUE}, {1, Integer.MAX_VALUE}, {0, 0}, {2001, 65}};
        for (int[] each : wrong) {
            DUE.refused("link(" + each[0] + ", " + each[1] + ")", () -> x.link(each[0], each[1]));
            halos("nothing was told", 2, x);
        }
        x.link(2000, 1);
        halos("link(2000, 1)", 1, x);
        x.link(1, 64);
        halos("link(1, 64)", 0, x);
        x.link(2000, 64);
        halos("link(2000, 64)", 0, x);
    }

    // "if the sum of the squares of the way between them is not above the square of the length"
    private static void linksOverTheWholeLength() {
        Halofinder x = Scenes.placed(new int[] {2048, 2054, 3054, 2048}, new int[] {2048, 2056, 3056, 2048});
        x.link(10, 3);
        halos("36 and 64 is not above 100", 1, x);
        DUE.is("its grains", 11, x.grains(-1, 0));
        x.link(9, 3);
        halos("but above 81", 0, x);
        Halofinder y = Scenes.placed(new int[] {2048, 2050, 3050, 2048}, new int[] {2048, 2058, 3058, 2048});
        y.link(10, 3);
        halos("4 and 100 is above 100", 0, y);
        y.link(11, 3);
        halos("but not above 121", 1, y);
    }

    // "not above": a way of 0 is linked over any length
    private static void linksOfOnePlace() {
        Halofinder x = Scenes.oneHalo(4095, 0);
        x.link(1, 4);
        halos("four in one place", 1, x);
        DUE.is("all of them", 15, x.grains(-1, 0));
    }

    // "The way": places 4094 and 2 are 4 apart
    private static void linksAcrossTheEdge() {
        Halofinder x = Scenes.inALine(4094, 2, 1000, 1004);
        x.link(4, 2);
        halos("in x, 4 apart", 2, x);
        DUE.is("grains 0 and 1", 3, x.grains(-1, 0));
        DUE.is("grains 2 and 3", 12, x.grains(-1, 1));
        x.link(3, 2);
        halos("not over 3", 0, x);
        Halofinder y = Scenes.placed(new int[] {9, 9, 9, 9}, new int[] {2, 4094, 2, 4094});
        y.link(4, 4);
        halos("in y, 4 apart", 1, y);
        y.link(3, 3);
        halos("not over 3", 0, y);
        Halofinder z = Scenes.placed(new int[] {0, 4088, 4088, 0}, new int[] {4090, 0, 0, 4090});
        z.link(10, 4);
        halos("8 and 6 apart across the corner", 1, z);
        z.link(9, 4);
        halos("not over 9", 0, z);
    }

    // "length: ... to 2000"
    private static void linksOverTheGreatestLength() {
        Halofinder x = Scenes.inALine(0, 2000, 2000, 0);
        x.link(2000, 4);
        halos("2000 apart", 1, x);
        x.link(1999, 3);
        halos("not over 1999", 0, x);
        Halofinder y = Scenes.inALine(0, 2002, 2002, 0);
        y.link(2000, 3);
        halos("2002 apart", 0, y);
        Halofinder z = Scenes.inALine(0, 2096, 2096, 0);
        z.link(2000, 4);
        halos("2000 apart the other way", 1, z);
    }

    // "all grains that hang together by links": 0 by 3, 3 by 1, 1 by 2
    private static void linksInAChain() {
        Halofinder x = Scenes.inALine(1000, 1200, 1300, 1100);
        x.link(100, 4);
        halos("each 100 from the next", 1, x);
        DUE.is("all of them", 15, x.grains(-1, 0));
        x.link(99, 2);
        halos("none within 99", 0, x);
        Halofinder y = new Halofinder();
        y.universe(8);
        y.link(512, 64);
        halos("a lattice", 1, y);
    }

    // "if they are as many as the least number, or more"
    private static void leastNumbers() {
        Halofinder x = Scenes.inALine(100, 104, 3100, 100);
        int[] many = {2, 1, 1, 0, 0};
        for (int least = 1; least <= 5; least++) {
            x.link(4, least);
            halos("three and one, of " + least + " at least", many[least - 1], x);
        }
        Halofinder y = new Halofinder();
        y.universe(7);
        y.link(600, 49);
        halos("49 of 49", 1, y);
        y.link(600, 50);
        halos("49 of 50", 0, y);
        y.universe(8);
        y.link(600, 63);
        halos("64 of 63", 1, y);
    }

    // "if there is no such picture or halo": of no halos none
    private static void noHalos() {
        Halofinder x = Scenes.four();
        x.link(1, 2);
        x.keep();
        int[] pictures = {-1, 0};
        for (int picture : pictures) {
            DUE.is("halos(" + picture + ")", 0, x.halos(picture));
            DUE.is("halosAnew(" + picture + ")", 0, x.halosAnew(picture));
            DUE.missing("grains of none", () -> x.grains(picture, 0));
            DUE.missing("a number of none", () -> x.ofHalo(picture, 0, 0));
            DUE.missing("which goes first", () -> x.ofHalo(picture, 0, 6));
            DUE.missing("bound grains of none", () -> x.bound(picture, 0));
        }
    }

    // "Returns the grains of a halo as bits, that of the grain 0 lowest": all 64
    private static void sixtyFourGrains() {
        Halofinder x = new Halofinder();
        x.universe(8);
        x.link(512, 64);
        halos("one of all", 1, x);
        DUE.is("all bits", -1, x.grains(-1, 0));
        DUE.is("64 grains", 64, x.ofHalo(-1, 0, 0));
        DUE.is("bound at rest", -1, x.bound(-1, 0));
        DUE.missing("a second one", () -> x.grains(-1, 1));
        x.keep();
        DUE.is("all bits of a picture", -1, x.grains(0, 0));
    }

    // "of as many by the lowest grain of each": 64 of one grain
    private static void sixtyFourHalos() {
        Halofinder x = new Halofinder();
        x.universe(8);
        x.link(511, 1);
        halos("one of each", 64, x);
        for (int halo = 0; halo < 64; halo++) {
            DUE.is("bit " + halo, 1L << halo, x.grains(-1, halo));
        }
        DUE.missing("one more", () -> x.grains(-1, 64));
    }

    // "by falling numbers of grains, of as many by the lowest grain of each"
    private static void halosOfAsManyGrains() {
        Halofinder x = Scenes.inALine(100, 3100, 3104, 104);
        x.link(4, 2);
        DUE.is("0 and 3 are first", 9, x.grains(-1, 0));
        DUE.is("1 and 2 are second", 6, x.grains(-1, 1));
        Halofinder y = Scenes.inALine(100, 3100, 3104, 3100);
        y.link(4, 1);
        DUE.is("more grains are first", 14, y.grains(-1, 0));
        DUE.is("the lowest is second", 1, y.grains(-1, 1));
    }

    // "Throws IndexOutOfBoundsException if there is no such picture"
    private static void halosOfPictures() {
        Halofinder x = Scenes.four();
        Scenes.keepPairs(x);
        int[] none = {1, -2, 12, Integer.MIN_VALUE, Integer.MAX_VALUE};
        for (int picture : none) {
            DUE.missing("halos(" + picture + ")", () -> x.halos(picture));
            DUE.missing("halosAnew(" + picture + ")", () -> x.halosAnew(picture));
            DUE.missing("grains(" + picture + ", 0)", () -> x.grains(picture, 0));
            DUE.missing("ofHalo(" + picture + ", 0, 0)", () -> x.ofHalo(picture, 0, 0));
            DUE.missing("ofHalo(" + picture + ", 0, 6)", () -> x.ofHalo(picture, 0, 6));
            DUE.missing("bound(" + picture + ", 0)", () -> x.bound(picture, 0));
        }
        for (int number = 1; number < 12; number++) {
            x.keep();
        }
        DUE.is("halos(11)", 2, x.halos(11));
        DUE.is("halosAnew(11)", 2, x.halosAnew(11));
        DUE.is("grains(11, 1)", 10, x.grains(11, 1));
        DUE.is("ofHalo(11, 1, 0)", 2, x.ofHalo(11, 1, 0));
        DUE.is("bound(11, 1)", 8, x.bound(11, 1));
        DUE.missing("halos(12)", () -> x.halos(12));
    }

    // "A picture keeps places, speeds, and halos, by the length and the least number of then"
    private static void picturesKeepLengthAndLeast() {
        Halofinder x = Scenes.four();
        Scenes.keepPairs(x);
        Scenes.keepSingles(x);
        Scenes.keepNothing(x);
        x.step(20);
        x.link(2000, 1);
        int[] many = {2, 4, 0};
        for (int picture = 0; picture < 3; picture++) {
            DUE.is("halos of " + picture, many[picture], x.halos(picture));
            DUE.is("anew of " + picture, many[picture], x.halosAnew(picture));
        }
        DUE.is("grains then", 5, x.grains(0, 0));
        DUE.is("the middle then", 0, x.ofHalo(0, 0, 1));
        DUE.is("the speed then", -100, x.ofHalo(0, 0, 4));
    }

    // "halo: its number": from 0 to one less than how many there are
    private static void haloNumbers() {
        Halofinder x = Scenes.four();
        Scenes.keepPairs(x);
        int[] none = {2, -1, 64, Integer.MIN_VALUE, Integer.MAX_VALUE};
        for (int picture = -1; picture < 1; picture++) {
            int asked = picture;
            DUE.is("the last", 10, x.grains(asked, 1));
            for (int halo : none) {
                DUE.missing("grains(" + asked + ", " + halo + ")", () -> x.grains(asked, halo));
                DUE.missing("ofHalo(" + asked + ", " + halo + ", 0)", () -> x.ofHalo(asked, halo, 0));
                DUE.missing("ofHalo(" + asked + ", " + halo + ", -1)", () -> x.ofHalo(asked, halo, -1));
                DUE.missing("bound(" + asked + ", " + halo + ")", () -> x.bound(asked, halo));
            }
        }
    }

    // "what: 0 ... 5": "Throws IllegalArgumentException if what is out of range"
    private static void numbersOfAHalo() {
        Halofinder x = Scenes.oneHalo(2050, 2047);
        x.keep();
        int[] wrong = {-1, 6, Integer.MIN_VALUE, Integer.MAX_VALUE};
        long[] right = {4, 2050, 2047, 2, -1, 0};
        for (int picture = -1; picture < 1; picture++) {
            int asked = picture;
            for (int what = 0; what < 6; what++) {
                DUE.is("what " + what, right[what], x.ofHalo(asked, 0, what));
            }
            for (int what : wrong) {
                DUE.refused("what " + what, () -> x.ofHalo(asked, 0, what));
            }
        }
    }

    // "The middle of some grains": of one grain all is its own
    private static void middlesOfOne() {
        Halofinder x = Scenes.placed(new int[] {0, 100, 200, 2300}, new int[] {4094, 98, 198, 2298});
        x.link(1, 1);
        long[] first = {1, 0, 4094, -1024, 3070, 0};
        long[] last = {1, 2300, 2298, -772, -774, 0};
        for (int what = 0; what < 6; what++) {
            DUE.is("what " + what + " of grain 0", first[what], x.ofHalo(-1, 0, what));
            DUE.is("what " + what + " of grain 3", last[what], x.ofHalo(-1, 3, what));
        }
    }

    private static long middle(int... xs) {
        Halofinder x = Scenes.inALine(xs);
        x.link(100, 2);
        return x.ofHalo(-1, 0, 1);
    }

    // "the sums of the ways from it to all of them, ..., divided by their number, rounded down"
    private static void middlesRoundDown() {
        DUE.is("2 by 3", 2000, middle(2000, 2002, 1006, 2000));
        DUE.is("4 by 3", 2001, middle(2000, 2004, 1004, 2000));
        DUE.is("6 by 3", 2002, middle(2000, 2006, 1006, 2000));
        DUE.is("-2 by 3", 1999, middle(2000, 1998, 1002, 2000));
        DUE.is("-4 by 3", 1998, middle(2000, 1996, 1000, 2000));
        DUE.is("-6 by 3", 1998, middle(2000, 1994, 1006, 2000));
        Halofinder y = Scenes.placed(new int[] {9, 9, 9, 9}, new int[] {2000, 1996, 1004, 2000});
        y.link(100, 3);
        DUE.is("-4 by 3 in y", 1998, y.ofHalo(-1, 0, 2));
    }

    // "taken modulo 4096"
    private static void middlesStayInTheRoom() {
        DUE.is("-2 by 3 from 0", 4095, middle(0, 4094, 1002, 0));
        DUE.is("2 by 3 from 0", 0, middle(0, 2, 1006, 0));
        DUE.is("4 by 3 from 4094", 4095, middle(4094, 2, 1002, 4094));
        DUE.is("8 by 3 from 4094", 0, middle(4094, 6, 1006, 4094));
        Halofinder y = Scenes.placed(new int[] {9, 9, 9, 9}, new int[] {0, 4092, 1004, 0});
        y.link(100, 3);
        DUE.is("-4 by 3 from 0 in y", 4094, y.ofHalo(-1, 0, 2));
    }

    // "the place of the lowest one, and the sums of the ways from it": of a halo half the room wide
    private static void middlesByTheWaysFromTheLowest() {
        Halofinder x = Scenes.inALine(0, 1024, 2048, 3072);
        x.link(1024, 4);
        DUE.is("0, 1024, -2048 and -1024 by 4", 4096 - 512, x.ofHalo(-1, 0, 1));
        Halofinder y = Scenes.inALine(1024, 0, 3072, 2048);
        y.link(1024, 4);
        DUE.is("0, -1024, -2048 and 1024 by 4 from 1024", 512, y.ofHalo(-1, 0, 1));
    }

    // "their speed is the sum of their speeds, divided so"
    private static void speedsRoundDown() {
        Halofinder x = Scenes.inALine(1000, 1004, 3000, 1000);
        x.link(4, 2);
        DUE.is("-24, -20 and -2072 by 3", -706, x.ofHalo(-1, 0, 3));
        DUE.is("1024, -1024 and -1024 by 3", -342, x.ofHalo(-1, 0, 4));
        Halofinder y = Scenes.inALine(3080, 3084, 1000, 3080);
        y.link(4, 2);
        DUE.is("2056, 2060 and 8 by 3", 1374, y.ofHalo(-1, 0, 3));
    }

    // "the sum, over all, of the way's x from the lowest one times the speed in y, less the way's y times
    // the speed in x"
    private static void spinsHaveSigns() {
        Halofinder x = Scenes.placed(new int[] {4094, 2, 1000, 1004}, new int[] {4094, 2, 1000, 1004});
        x.link(6, 2);
        DUE.is("grains 0 and 1", 3, x.grains(-1, 0));
        DUE.is("4 times -3070, less 4 times -1022", -8192, x.ofHalo(-1, 0, 5));
        Halofinder y = Scenes.placed(new int[] {2, 2, 1000, 1000}, new int[] {2, 4094, 1000, 1004});
        y.link(6, 2);
        DUE.is("less -4 times -1022", -4088, y.ofHalo(-1, 0, 5));
        Halofinder z = Scenes.inALine(2, 4094, 1000, 1004);
        z.link(6, 2);
        DUE.is("-4 times -1024", 4096, z.ofHalo(-1, 0, 5));
        Halofinder w = Scenes.inALine(0, 1024, 2048, 3072);
        w.link(1024, 4);
        DUE.is("0, 1024 times -1024, -2048 times 1024, -1024 times -1024", -2048 * 1024, w.ofHalo(-1, 0, 5));
    }

    // "one that is alone stays"
    private static void oneAloneIsBound() {
        Halofinder x = Scenes.inALine(100, 1100, 2104, 3104);
        x.link(1, 1);
        for (int halo = 0; halo < 4; halo++) {
            DUE.is("grain " + halo + " alone", 1 << halo, x.bound(-1, halo));
        }
        Halofinder y = Scenes.oneHalo(2048, 2048);
        DUE.is("all others were left out", 8, y.bound(-1, 0));
    }

    /** Grains 0 and 2 in one place with speeds of 1024 and -1024, and 1 and 3 in another. */
    private static Halofinder twoInOnePlace(boolean inX) {
        Halofinder x = new Halofinder();
        x.universe(2);
        x.ripple(inX ? 1 : 0, inX ? 0 : 1, 1000, 12);
        x.ripple(inX ? 1 : 0, inX ? 0 : 1, 24, 12);
        x.link(1, 2);
        return x;
    }

    // "As long as there is one whose push is above twice its hold": 1048576 and 128 times g
    private static void twiceTheHoldIsEnough() {
        Halofinder x = twoInOnePlace(true);
        x.pull(8192, 10);
        DUE.is("as much is not above", 5, x.bound(-1, 0));
        DUE.is("nor in the other", 10, x.bound(-1, 1));
        x.pull(8191, 10);
        DUE.is("128 less are", 4, x.bound(-1, 0));
        DUE.is("in the other too", 8, x.bound(-1, 1));
        Halofinder y = twoInOnePlace(false);
        y.pull(8192, 10);
        DUE.is("as much is not above in y", 3, y.bound(-1, 0));
        y.pull(8191, 10);
        DUE.is("128 less are in y", 2, y.bound(-1, 0));
    }

    // "64 times g by 1 more than how far they are": 576 and twice 576320 or 576256 by 2001
    private static void twiceTheHoldOverAWay() {
        Halofinder x = new Halofinder();
        x.universe(2);
        x.ripple(1, 0, 24, 4);
        x.link(2000, 2);
        x.pull(9005, 10);
        DUE.is("twice 288", 5, x.bound(-1, 0));
        x.pull(9004, 10);
        DUE.is("twice 287", 4, x.bound(-1, 0));
    }

    // "of several the lowest one, is left out; those still there are looked at anew then": all four have a
    // push of 2097152 at first; without the first one 1 and 2 have one of 2331080, then 2 and 3 of 1048576
    private static void ofSeveralTheLowest() {
        Halofinder x = Scenes.oneHalo(2048, 2048);
        x.pull(5462, 10);
        DUE.is("a hold of 1048704", 15, x.bound(-1, 0));
        x.pull(5461, 10);
        DUE.is("holds of 1048512, 699008, 349504", 8, x.bound(-1, 0));
        x.keep();
        x.pull(5462, 10);
        DUE.is("of a picture", 15, x.bound(0, 0));
    }

    // "those still there are looked at anew then": of the speeds 1024, 1024, -1024 and 3072 in x, and 1024,
    // -1024, 1024 and -1024 in y, first the third is left out; then the first and the last have a push of
    // 2331080, the second one of 930248
    private static void thoseStillThereAnew() {
        Halofinder x = Scenes.placed(new int[] {2048, 2048, 2048, 2048 + 4096}, new int[] {2048, 2048, 2048, 2048});
        x.link(1, 4);
        x.pull(10000, 10);
        DUE.is("two holds of 640000 are enough", 11, x.bound(-1, 0));
        x.pull(9000, 10);
        DUE.is("two holds of 576000 are not; one is for a push of 1048576", 10, x.bound(-1, 0));
    }

    // "that for which it is most above ... is left out": grain 3, 1448 away from the others, is pushed least
    private static void theMostAboveGoesFirst() {
        Halofinder x = Scenes.placed(new int[] {2048, 2048, 2048, 3072}, new int[] {2048, 2048, 2048, 3072});
        x.link(1500, 4);
        x.pull(10000, 10);
        DUE.is("a push of 131072 above 2646, all others below", 7, x.bound(-1, 0));
        x.pull(8700, 10);
        DUE.is("3 goes first, then 1", 5, x.bound(-1, 0));
    }

    // "less theirs (that of those still there, rounded down as told)": -3 by 9 is -1
    private static void theirSpeedIsRoundedDown() {
        Halofinder x = new Halofinder();
        x.universe(3);
        x.ripple(1, 0, 1, 0);
        x.link(1500, 9);
        DUE.is("those with a speed of -1 have no push", 8 + 16 + 32, x.bound(-1, 0));
        x.universe(3);
        x.ripple(1, 0, -1, 0);
        DUE.is("3 by 9 is 0: those with a speed of 1 go", 511 - 8 - 16 - 32, x.bound(-1, 0));
    }

    // "with g as it is now"
    private static void boundWithGAsNow() {
        Halofinder x = Scenes.oneHalo(2048, 2048);
        x.pull(5462, 10);
        x.keep();
        x.pull(0, 10);
        DUE.is("no hold now", 8, x.bound(0, 0));
        x.pull(10000, 1000);
        DUE.is("a greater one now", 15, x.bound(0, 0));
    }

    // "of some grains, all at first": as long as none is pushed all 64 stay
    private static void allAreBound() {
        Halofinder x = new Halofinder();
        x.universe(8);
        x.link(512, 64);
        DUE.is("without g", -1, x.bound(-1, 0));
        x.pull(10000, 10);
        DUE.is("with g", -1, x.bound(-1, 0));
    }
}
