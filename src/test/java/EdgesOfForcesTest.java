/** 'Forces, steps' and promises 6 to 9: a test for each sentence that names an edge, under its words. */
public final class EdgesOfForcesTest {
    private static final Due DUE = new Due("EdgesOfForcesTest");

    public static void main(String[] args) {
        pullRanges();
        grainsOfForces();
        forcesOfOnePlace();
        forcesDropTheRest();
        forcesAcrossTheEdge();
        forcesOverHalfTheRoom();
        forcesOfAllGrains();
        nearCellsPullOneByOne();
        farCellsPullAsOne();
        nearCellsAcrossTheEdge();
        farInOneDirectionIsFar();
        nearAtTheCornersToo();
        cellsEndWhereTheyShould();
        cellsByHalfTheRoom();
        cellsOfOneGrain();
        middlesOfCellsDropTheRest();
        cellsWithAllGrains();
        stepRanges();
        agesUpToAThousand();
        agesAboveAThousand();
        manyStepsAreAsManyOnes();
        stepsFindAllForcesFirst();
        movesDropTheRest();
        movesAtTheLastAge();
        momentumOfNothing();
        momentumOfAll();
        DUE.end();
    }

    /** Grains 0 and 3 at one place, 1 at another, and 2 at a third. */
    private static Halofinder three(int[] own, int[] one, int[] other) {
        Halofinder x = Scenes.placed(new int[] {own[0], one[0], other[0], own[0]},
            new int[] {own[1], one[1], other[1], own[1]});
        x.pull(10000, 10);
        return x;
    }

    // The same with x and y changed.
    private static Halofinder turned(int[] own, int[] one, int[] other) {
        return three(new int[] {own[1], own[0]}, new int[] {one[1], one[0]}, new int[] {other[1], other[0]});
    }

    private static void forceX(String of, int byCells, int oneByOne, int[] own, int[] one, int[] other) {
        Halofinder x = three(own, one, other);
        DUE.is(of + " in x, by cells", byCells, x.force(0, true, true));
        DUE.is(of + " in x, one by one", oneByOne, x.force(0, true, false));
        DUE.is(of + " in x, by cells, on grain 3", byCells, x.force(3, true, true));
        Halofinder y = turned(own, one, other);
        DUE.is(of + " in y, by cells", byCells, y.force(0, false, true));
        DUE.is(of + " in y, one by one", oneByOne, y.force(0, false, false));
    }

    private static int[] at(int x, int y) {
        return new int[] {x, y};
    }

    // "g: 0 to 10000; softness: 10 to 1000"
    private static void pullRanges() {
        Halofinder x = Scenes.four();
        x.pull(10000, 10);
        DUE.is("480000 by 2404", -199, x.force(0, true, false));
        int[][] wrong = {{-1, 100}, {10001, 100}, {100, 9}, {100, 1001}, {Integer.MIN_VALUE, 100},
            {Integer.MAX_VALUE, 100}, {100, Integer.MIN_VALUE}, {100, Integer.MAX_VALUE}, {-1, 9}};
        for (int[] each : wrong) {
            DUE.refused("pull(" + each[0] + ", " + each[1] + ")", () -> x.pull(each[0], each[1]));
            DUE.is("which tells nothing", -199, x.force(0, true, false));
        }
        x.pull(0, 10);
        DUE.is("g 0", 0, x.force(0, true, false));
        x.pull(10000, 1000);
        DUE.is("480000 by 1002304", 0, x.force(0, true, false));
        Halofinder y = Scenes.inALine(1048, 2048, 2048, 1048);
        y.pull(10000, 1000);
        DUE.is("two of 10000000 by 2000000", 10, y.force(0, true, false));
        y.pull(9999, 1000);
        DUE.is("two of 9999000 by 2000000", 8, y.force(0, true, false));
    }

    // "Throws IndexOutOfBoundsException if there is no such grain"
    private static void grainsOfForces() {
        Halofinder x = new Halofinder();
        x.universe(8);
        x.pull(10000, 10);
        x.force(0, true, false);
        x.force(63, false, true);
        int[] none = {-1, 64, Integer.MIN_VALUE, Integer.MAX_VALUE};
        for (int grain : none) {
            DUE.missing("force(" + grain + ", true, false)", () -> x.force(grain, true, false));
            DUE.missing("force(" + grain + ", false, true)", () -> x.force(grain, false, true));
        }
        x.universe(2);
        x.force(3, true, true);
        DUE.missing("the grain behind the last", () -> x.force(4, true, true));
    }

    // "by the squares of both of the way and of the softness, together": of no way, too.
    private static void forcesOfOnePlace() {
        Halofinder x = Scenes.oneHalo(0, 0);
        x.pull(10000, 10);
        for (int grain = 0; grain < 4; grain++) {
            DUE.is("no way, no pull", 0, x.force(grain, true, false));
            DUE.is("nor in y", 0, x.force(grain, false, false));
            DUE.is("nor by cells", 0, x.force(grain, true, true));
        }
    }

    // "divides with the rest dropped, towards 0": 10000 times 1 to 4, by 100 and the squares
    private static void forcesDropTheRest() {
        Halofinder x = Scenes.inALine(2048, 2052, 2048, 2052);
        x.pull(2999, 10);
        DUE.is("twice 103 and a rest", 206, x.force(0, true, false));
        DUE.is("twice -103 and a rest", -206, x.force(1, true, false));
        x.pull(28, 10);
        DUE.is("112 by 116", 0, x.force(0, true, false));
        DUE.is("-112 by 116", 0, x.force(1, true, false));
        x.pull(29, 10);
        DUE.is("116 by 116", 2, x.force(2, true, false));
        DUE.is("-116 by 116", -2, x.force(3, true, false));
    }

    // "the way": the shorter one, across the edge of the room
    private static void forcesAcrossTheEdge() {
        Halofinder x = Scenes.inALine(0, 4092, 0, 4092);
        x.pull(29, 10);
        DUE.is("pulled to the left", -2, x.force(0, true, false));
        DUE.is("pulled to the right", 2, x.force(1, true, false));
        DUE.is("by cells, too", -2, x.force(0, true, true));
        Halofinder y = Scenes.placed(new int[] {7, 7, 7, 7}, new int[] {4095, 3, 4095, 3});
        y.pull(29, 10);
        DUE.is("pulled up", 2, y.force(0, false, false));
        DUE.is("pulled down", -2, y.force(3, false, true));
    }

    // "the way going from the lower to the higher; and it is pulled by the lower by as much the other way"
    private static void forcesOverHalfTheRoom() {
        Halofinder x = Scenes.inALine(0, 2048, 2048, 0);
        x.pull(10000, 10);
        DUE.is("0 is pulled by 1 and 2", -8, x.force(0, true, false));
        DUE.is("1 is pulled by 0 and 3", 4 - 4, x.force(1, true, false));
        DUE.is("2 is pulled by 0 and 3", 4 - 4, x.force(2, true, false));
        DUE.is("3 is pulled by 1 and 2", 8, x.force(3, true, false));
        Halofinder y = Scenes.inALine(0, 2046, 2046, 0);
        y.pull(10000, 10);
        DUE.is("2046 away to the right", 8, y.force(0, true, false));
        DUE.is("2046 away to the left", -8, y.force(2, true, false));
        Halofinder z = Scenes.inALine(0, 2050, 2050, 0);
        z.pull(10000, 10);
        DUE.is("2050 away is 2046 to the left", -8, z.force(0, true, false));
        DUE.is("and to the right", 8, z.force(1, true, false));
    }

    // "The force on a grain is the sum of all pulls on it": of 63 on a lattice, where only the ways of half
    // the room have no counterpart, 15 of them in x.
    private static void forcesOfAllGrains() {
        Halofinder x = new Halofinder();
        x.universe(8);
        x.pull(10000, 10);
        int wanted = -4 - 2 * 4 - 2 * 3 - 2 * 3 - 2;
        DUE.is("on the first", wanted, x.force(0, true, false));
        DUE.is("on the first in y", wanted, x.force(0, false, false));
        DUE.is("on the last", -wanted, x.force(63, true, false));
        DUE.is("on the last in y", -wanted, x.force(63, false, false));
    }

    // "Grains in its own cell and in the eight around it pull it one by one"
    private static void nearCellsPullOneByOne() {
        forceX("own cell: 12.5 and 11.1, not twice 11.8", 23, 23, at(1, 9), at(801, 9), at(901, 9));
        forceX("next cell: 9.09 and 8.33, not twice 8.69", 17, 17, at(0, 9), at(1100, 9), at(1200, 9));
        forceX("the cell before: -9.09 and -8.33", -17, -17, at(1200, 9), at(100, 9), at(0, 9));
    }

    // "All others of a cell pull as one ...: one pull from there, times how many they are"
    private static void farCellsPullAsOne() {
        forceX("9.09 and 8.33, from between 8.69", 16, 17, at(1000, 9), at(2100, 9), at(2200, 9));
        forceX("the same to the left", -16, -17, at(2100, 9), at(1000, 9), at(900, 9));
    }

    // "in the eight around it": the room has no edge
    private static void nearCellsAcrossTheEdge() {
        forceX("-9.12 and -8.36", -17, -17, at(1000, 9), at(4000, 9), at(3900, 9));
        forceX("9.12 and 8.36", 17, 17, at(3900, 9), at(900, 9), at(1000, 9));
        forceX("-9.12 and -8.36, far", -16, -17, at(0, 9), at(3000, 9), at(2900, 9));
    }

    // "All others": far in x alone, in y alone, in both
    private static void farInOneDirectionIsFar() {
        forceX("far in x, the next cell in y", 16, 17, at(1000, 1000), at(2100, 1028), at(2200, 1028));
        forceX("far in x, the next one across the edge", 16, 17, at(1000, 4), at(2100, 4092), at(2200, 4092));
        forceX("far in both: 4.07 and 3.91, from between 3.99", 6, 7, at(1020, 1020), at(2920, 2048),
            at(3060, 2048));
        forceX("the next cell in x, far in y: the same", 6, 7, at(0, 1020), at(1900, 2048), at(2040, 2048));
    }

    // "the eight around it": those at the corners are among them
    private static void nearAtTheCornersToo() {
        forceX("4.08 and 3.92", 7, 7, at(0, 0), at(1900, 1024), at(2040, 1024));
        forceX("-4.08 and -3.92, across both edges", -7, -7, at(1020, 1020), at(3216, 4092), at(3076, 4092));
    }

    private static void cellBorder(int own, int other, int want) {
        Halofinder x = three(at(own, 500), at(other, 892), at(other, 1000));
        DUE.is("from " + other + " to " + own + " in x", want, x.force(0, false, true));
        Halofinder y = turned(at(own, 500), at(other, 892), at(other, 1000));
        DUE.is("from " + other + " to " + own + " in y", want, y.force(0, true, true));
    }

    // "the room has 16 cells of 1024 by 1024": 0.96 and 1.2 one by one are 1, and 1.08 twice is 2
    private static void cellsEndWhereTheyShould() {
        cellBorder(3001, 1023, 2);
        cellBorder(3000, 1024, 1);
        cellBorder(71, 2047, 1);
        cellBorder(70, 2048, 2);
        cellBorder(1095, 3071, 1);
        cellBorder(1094, 3072, 2);
        cellBorder(2119, 4095, 1);
        cellBorder(2118, 0, 2);
        cellBorder(1023, 3001, 2);
        cellBorder(1024, 3000, 1);
        cellBorder(2047, 71, 1);
        cellBorder(2048, 70, 2);
    }

    // "what is 2048 away is -2048 whichever way one goes": by cells from each grain itself
    private static void cellsByHalfTheRoom() {
        Halofinder x = Scenes.inALine(0, 2048, 2048, 0);
        x.pull(10000, 10);
        for (int grain = 0; grain < 4; grain++) {
            DUE.is("on " + grain + " in x", -8, x.force(grain, true, true));
        }
        Halofinder y = Scenes.placed(new int[] {9, 9, 9, 9}, new int[] {512, 2560, 512, 2560});
        y.pull(10000, 10);
        for (int grain = 0; grain < 4; grain++) {
            DUE.is("on " + grain + " in y", -8, y.force(grain, false, true));
        }
    }

    // "from a place with the lowest x of the cell and the sum of how far its grains are beyond that, by
    // their number": of one grain its own place, of none no pull
    private static void cellsOfOneGrain() {
        Halofinder x = three(at(0, 1), at(2900, 7), at(0, 3));
        DUE.is("the far one by -8.36", -8, x.force(0, true, true));
        DUE.is("the near one by 192.3, the far one by 0.04", 192, x.force(0, false, true));
        Halofinder y = three(at(1000, 9), at(2200, 9), at(1000, 9));
        y.pull(1201, 10);
        DUE.is("1200 away", 1, y.force(0, true, true));
        y.pull(1200, 10);
        DUE.is("with a lower g", 0, y.force(0, true, true));
    }

    // "the sum of how far its grains are beyond that, by their number", with the rest dropped: 460 by 3 is
    // 153, so that they pull from 1201 away; from 1202 it would be by nothing
    private static void middlesOfCellsDropTheRest() {
        Halofinder x = Scenes.inALine(1000, 2200, 2200, 2204);
        x.pull(1202, 10);
        DUE.is("three of 1", 3, x.force(0, true, true));
        DUE.is("one by one 1, 1 and 0", 2, x.force(0, true, false));
        int[] all = {2048, 2048, 2048, 2048};
        Halofinder y = Scenes.placed(all, new int[] {1000, 2200, 2200, 2204});
        y.pull(1202, 10);
        DUE.is("three of 1 in y", 3, y.force(0, false, true));
        DUE.is("one by one in y", 2, y.force(0, false, false));
    }

    // "All others of a cell": of 16 cells with four grains each, nine are near, and seven pull as one. Of the
    // near ones only those 1536 away have no counterpart: 6, twice 5, twice 4, and 3. Of the far ones those
    // -1792 away pull by 5, 3, 2 and 4, those across by 0, 2 and -2, four times each.
    private static void cellsWithAllGrains() {
        Halofinder x = new Halofinder();
        x.universe(8);
        x.pull(10000, 10);
        DUE.is("in x", 27 - 4 * 14, x.force(0, true, true));
        DUE.is("in y", 27 - 4 * 14, x.force(0, false, true));
        DUE.is("asked again", 27 - 4 * 14, x.force(0, true, true));
        x.pull(0, 10);
        DUE.is("g 0", 0, x.force(0, true, true));
    }

    // "many: 1 to 20"
    private static void stepRanges() {
        Halofinder x = new Halofinder();
        int[] wrong = {0, 21, -1, Integer.MIN_VALUE, Integer.MAX_VALUE};
        for (int many : wrong) {
            DUE.refused("step(" + many + ")", () -> x.step(many));
        }
        DUE.is("step(1)", 2, x.step(1));
        DUE.is("step(20)", 22, x.step(20));
        for (int many : wrong) {
            DUE.refused("step(" + many + ") later", () -> x.step(many));
        }
        DUE.is("no step had passed", 23, x.step(1));
    }

    private static Halofinder atTheAge(int age) {
        Halofinder x = new Halofinder();
        for (int left = age - 1; left > 0; left -= 20) {
            x.step(Math.min(20, left));
        }
        return x;
    }

    // "if the age would be above 1000": 1000 it may be
    private static void agesUpToAThousand() {
        DUE.is("from 999 by 1", 1000, atTheAge(999).step(1));
        DUE.is("from 980 by 20", 1000, atTheAge(980).step(20));
        DUE.is("from 990 by 10", 1000, atTheAge(990).step(10));
    }

    // "if the age would be above 1000": 1001 not, nor does a part of the steps pass
    private static void agesAboveAThousand() {
        for (int age = 981; age <= 1000; age++) {
            Halofinder x = atTheAge(age);
            int most = 1000 - age;
            DUE.tooLate("from " + age + " by one too many", () -> x.step(most + 1));
            DUE.tooLate("from " + age + " by 20", () -> x.step(20));
            DUE.refused("from " + age + " by 21", () -> x.step(21));
            DUE.refused("from " + age + " by 0", () -> x.step(0));
            if (most > 0) {
                DUE.is("from " + age + " by " + most, 1000, x.step(most));
            }
        }
    }

    // "Lets steps pass": at once or one by one
    private static void manyStepsAreAsManyOnes() {
        Halofinder x = new Halofinder();
        Halofinder y = new Halofinder();
        x.pull(10000, 10);
        y.pull(10000, 10);
        x.draw(7, 900);
        y.draw(7, 900);
        x.step(20);
        for (int turn = 0; turn < 20; turn++) {
            y.step(1);
        }
        for (int grain = 0; grain < 16; grain++) {
            for (int what = 0; what < 4; what++) {
                DUE.is("grain " + grain + " after 20", y.grain(-1, grain, what), x.grain(-1, grain, what));
            }
        }
    }

    // "all forces are found, one by one (not by cells), and added to the speeds; then each grain moves"
    private static void stepsFindAllForcesFirst() {
        Halofinder x = three(at(1000, 9), at(2100, 9), at(2200, 9));
        x.step(1);
        DUE.is("-24 and 17, not the 16 by cells", -7, x.grain(-1, 0, 2));
        DUE.is("-2072 and 17", -2055, x.grain(-1, 3, 2));
        DUE.is("1076 less twice 9, and 99", 1076 - 18 + 99, x.grain(-1, 1, 2));
        DUE.is("-872 less twice 8, and 99", -872 - 16 - 99, x.grain(-1, 2, 2));
        DUE.is("by the speed of then, -7 by 16", 1000, x.grain(-1, 0, 0));
        DUE.is("-2055 by 16", 1000 - 128, x.grain(-1, 3, 0));
        DUE.is("1157 by 16", 2100 + 72, x.grain(-1, 1, 0));
        DUE.is("-987 by 16", 2200 - 61, x.grain(-1, 2, 0));
        Halofinder y = turned(at(1000, 9), at(2100, 9), at(2200, 9));
        y.step(1);
        DUE.is("-24 and 17 in y", -7, y.grain(-1, 0, 3));
        DUE.is("-972 less twice 9, and 99", -972 - 18 + 99, y.grain(-1, 1, 3));
        DUE.is("1176 less twice 8, and 99", 1176 - 16 - 99, y.grain(-1, 2, 3));
        DUE.is("-891 by 16", 2100 - 55, y.grain(-1, 1, 1));
        DUE.is("1061 by 16", 2200 + 66, y.grain(-1, 2, 1));
    }

    // "each grain moves by its speed by (16 times the age)", towards 0
    private static void movesDropTheRest() {
        int[][] moves = {{15, 0, 0}, {16, 1, 0}, {31, 1, 0}, {32, 2, 1}, {-15, 0, 0}, {-16, -1, 0}, {-31, -1, 0},
            {-32, -2, -1}, {47, 2, 1}, {-63, -3, -1}, {-64, -4, -2}};
        for (int[] each : moves) {
            Halofinder x = Scenes.inALine(1024 + each[0], 1024 + each[0], 3072 + each[0], 3072 + each[0]);
            x.step(1);
            DUE.is("by " + each[0] + " by 16", 1024 + each[0] + each[1], x.grain(-1, 0, 0));
            x.step(1);
            DUE.is("by " + each[0] + " by 32", 1024 + each[0] + each[1] + each[2], x.grain(-1, 0, 0));
        }
    }

    // "then the age is 1 more": the last move is by 16 times 999
    private static void movesAtTheLastAge() {
        long[] moved = new long[2];
        for (int n = 0; n < 2; n++) {
            int speed = 16 * 999 - n;
            Halofinder x = Scenes.inALine(1024 + speed, 1024 + speed, 3072 + speed, 3072 + speed);
            for (int turn = 0; turn < 49; turn++) {
                x.step(20);
            }
            x.step(18);
            long before = x.grain(-1, 0, 0);
            DUE.is("the last step", 1000, x.step(1));
            moved[n] = x.grain(-1, 0, 0) - before;
        }
        DUE.is("15984 by 15984", 1, moved[0]);
        DUE.is("15983 by 15984", 0, moved[1]);
    }

    // "Returns the sum of all speeds": 0 at first
    private static void momentumOfNothing() {
        Halofinder x = new Halofinder();
        for (int side = 2; side <= 8; side++) {
            x.universe(side);
            DUE.is("in x of " + side, 0, x.momentum(true));
            DUE.is("in y of " + side, 0, x.momentum(false));
        }
    }

    // "Returns the sum of all speeds in x, or in y": of 64 grains, the first and the last too
    private static void momentumOfAll() {
        Halofinder x = new Halofinder();
        x.universe(8);
        x.ripple(1, 2, 777, 5);
        x.ripple(2, -1, -333, 2);
        long inX = 0;
        long inY = 0;
        for (int grain = 0; grain < 64; grain++) {
            inX += x.grain(-1, grain, 2);
            inY += x.grain(-1, grain, 3);
        }
        DUE.is("in x", inX, x.momentum(true));
        DUE.is("in y", inY, x.momentum(false));
        Halofinder y = Scenes.inALine(1024, 1028, 1024, 1028);
        DUE.is("0, 4, -2048, -2044", -4088, y.momentum(true));
        DUE.is("1024, -1024, 1024, -1024", 0, y.momentum(false));
        y.pull(10000, 10);
        y.step(20);
        DUE.is("kept in x", -4088, y.momentum(true));
        DUE.is("kept in y", 0, y.momentum(false));
    }
}
