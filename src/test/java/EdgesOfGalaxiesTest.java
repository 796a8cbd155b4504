/** 'Galaxies' and promises 20 to 22: a test for each sentence that names an edge, under its words. */
public final class EdgesOfGalaxiesTest {
    private static final Due DUE = new Due("EdgesOfGalaxiesTest");

    public static void main(String[] args) {
        recipeRanges();
        gasOfNewGrains();
        gasOfGrainsThatWereInAHalo();
        gasOfGrainsThatWereInALostHalo();
        gasOfGrainsThatWereInNoHalo();
        gasOfAllThatGoOn();
        gasOfNothing();
        coolingDropsTheRest();
        formingDropsTheRest();
        windDropsTheRest();
        windOfStarsThatJustFormed();
        noMoreThanThereIs();
        noStarsNoWind();
        recipesAsTheyAreNow();
        keptOfNothing();
        keptOfLostOnes();
        keptWithWhatWasBlownOut();
        keptOfAllThereCanBe();
        noSuchGalaxies();
        galaxyNumbers();
        DUE.end();
    }

    private static void galaxy(Halofinder x, int picture, int halo, int... want) {
        for (int what = 0; what < 4; what++) {
            DUE.is("galaxy(" + picture + ", " + halo + ", " + what + ")", want[what], x.galaxy(picture, halo, what));
        }
    }

    /** Two halos of two grains each, in one picture. */
    private static Halofinder twoGalaxies() {
        Halofinder x = Scenes.four();
        Scenes.keepPairs(x);
        return x;
    }

    // "cooling: 0 to 1000; forming: 0 to 1000; wind: 0 to 5000"
    private static void recipeRanges() {
        Halofinder x = twoGalaxies();
        x.recipes(1000, 100, 5000);
        galaxy(x, 0, 0, 0, 80, 20, 100);
        int[][] wrong = {{-1, 0, 0}, {1001, 0, 0}, {0, -1, 0}, {0, 1001, 0}, {0, 0, -1}, {0, 0, 5001},
            {Integer.MIN_VALUE, 0, 0}, {Integer.MAX_VALUE, 0, 0}, {0, Integer.MIN_VALUE, 0},
            {0, Integer.MAX_VALUE, 0}, {0, 0, Integer.MIN_VALUE}, {0, 0, Integer.MAX_VALUE}, {-1, 1001, 5001}};
        for (int[] each : wrong) {
            DUE.refused("recipes(" + each[0] + ", " + each[1] + ", " + each[2] + ")",
                () -> x.recipes(each[0], each[1], each[2]));
            galaxy(x, 0, 0, 0, 80, 20, 100);
        }
        x.recipes(0, 1000, 5000);
        galaxy(x, 0, 1, 200, 0, 0, 0);
        x.recipes(1000, 0, 5000);
        galaxy(x, 0, 1, 0, 200, 0, 0);
        x.recipes(1000, 1000, 0);
        galaxy(x, 0, 1, 0, 0, 200, 0);
        x.recipes(0, 0, 0);
        galaxy(x, 0, 1, 200, 0, 0, 0);
    }

    // "100 of hot gas for each grain of it": in the first picture all are new
    private static void gasOfNewGrains() {
        Halofinder x = new Halofinder();
        x.universe(8);
        x.link(1, 1);
        x.keep();
        galaxy(x, 0, 0, 100, 0, 0, 0);
        galaxy(x, 0, 63, 100, 0, 0, 0);
        x.universe(8);
        x.link(512, 64);
        x.keep();
        galaxy(x, 0, 0, 6400, 0, 0, 0);
        x.recipes(1000, 1000, 5000);
        galaxy(x, 0, 0, 0, 0, 6400, 0);
    }

    // "which was in no halo of an earlier picture": three were
    private static void gasOfGrainsThatWereInAHalo() {
        Halofinder x = Scenes.inALine(100, 104, 3100, 100);
        x.link(4, 3);
        x.keep();
        x.link(2000, 1);
        x.keep();
        galaxy(x, 0, 0, 300, 0, 0, 0);
        galaxy(x, 1, 0, 400, 0, 0, 0);
        x.link(4, 1);
        x.keep();
        galaxy(x, 2, 0, 400, 0, 0, 0);
        galaxy(x, 2, 1, 0, 0, 0, 0);
    }

    // "of an earlier picture": of whatever one, though that halo was lost
    private static void gasOfGrainsThatWereInALostHalo() {
        Halofinder x = Scenes.inALine(100, 104, 3100, 100);
        x.link(4, 3);
        x.keep();
        x.link(1, 4);
        x.keep();
        x.keep();
        x.link(2000, 1);
        x.keep();
        DUE.is("three grains are lost", -1, x.next(0, 0));
        galaxy(x, 3, 0, 100, 0, 0, 0);
        DUE.is("all is kept", 400, x.kept());
    }

    // "which was in no halo": a picture without it does not count
    private static void gasOfGrainsThatWereInNoHalo() {
        Halofinder x = Scenes.four();
        Scenes.keepNothing(x);
        Scenes.keepNothing(x);
        Scenes.keepPairs(x);
        galaxy(x, 2, 0, 200, 0, 0, 0);
        galaxy(x, 2, 1, 200, 0, 0, 0);
    }

    // "A halo has what all have together that go on in it": two of picture 0, one of picture 1
    private static void gasOfAllThatGoOn() {
        Halofinder x = new Halofinder();
        x.universe(3);
        x.ripple(-2, 0, 700, 3);
        x.ripple(-1, 1, 100, 9);
        x.link(1100, 1);
        x.keep();
        x.step(8);
        x.link(500, 2);
        x.keep();
        x.step(1);
        x.link(2000, 2);
        x.keep();
        x.recipes(100, 0, 0);
        galaxy(x, 0, 0, 270, 30, 0, 0);
        galaxy(x, 1, 0, 243, 57, 0, 0);
        galaxy(x, 2, 0, 783 - 78, 117 + 78, 0, 0);
        x.recipes(1000, 100, 1000);
        galaxy(x, 0, 0, 0, 240, 30, 30);
        galaxy(x, 1, 0, 0, 192, 54, 54);
        galaxy(x, 2, 0, 0, 672 - 67 - 67, 114 + 67, 114 + 67);
    }

    // The same of nothing: grains that are not new, and nothing goes on in it
    private static void gasOfNothing() {
        Halofinder x = Scenes.four();
        x.recipes(1000, 1000, 5000);
        Scenes.keepAll(x);
        Scenes.keepPairs(x);
        galaxy(x, 1, 0, 0, 0, 400, 0);
        galaxy(x, 1, 1, 0, 0, 0, 0);
    }

    // "as much as the cooling times it, by 1000"
    private static void coolingDropsTheRest() {
        int[][] cooled = {{0, 0}, {4, 0}, {5, 1}, {9, 1}, {10, 2}, {994, 198}, {995, 199}, {999, 199}, {1000, 200}};
        Halofinder x = twoGalaxies();
        for (int[] each : cooled) {
            x.recipes(each[0], 0, 0);
            galaxy(x, 0, 0, 200 - each[1], each[1], 0, 0);
        }
    }

    // "the forming times it, by 1000"
    private static void formingDropsTheRest() {
        int[][] formed = {{0, 0}, {4, 0}, {5, 1}, {9, 1}, {10, 2}, {994, 198}, {995, 199}, {999, 199}, {1000, 200}};
        Halofinder x = twoGalaxies();
        for (int[] each : formed) {
            x.recipes(1000, each[0], 0);
            galaxy(x, 0, 0, 0, 200 - each[1], each[1], 0);
        }
    }

    // "the wind times what just became stars, by 1000"
    private static void windDropsTheRest() {
        int[][] blown = {{0, 0}, {24, 0}, {25, 1}, {49, 1}, {50, 2}, {999, 39}, {1000, 40}, {1024, 40}, {1025, 41}};
        Halofinder x = twoGalaxies();
        for (int[] each : blown) {
            x.recipes(1000, 200, each[0]);
            galaxy(x, 0, 0, 0, 160 - each[1], 40, each[1]);
        }
    }

    // "what just became stars": not those that were there
    private static void windOfStarsThatJustFormed() {
        Halofinder x = twoGalaxies();
        Scenes.keepPairs(x);
        x.recipes(500, 400, 500);
        galaxy(x, 0, 0, 100, 40, 40, 20);
        galaxy(x, 1, 0, 50, 90 - 36 - 18, 40 + 36, 20 + 18);
    }

    // "but no more than there is": 80 are stars, 120 are there
    private static void noMoreThanThereIs() {
        int[][] blown = {{1487, 118}, {1488, 119}, {1499, 119}, {1500, 120}, {1512, 120}, {1513, 120}, {5000, 120}};
        Halofinder x = twoGalaxies();
        for (int[] each : blown) {
            x.recipes(1000, 400, each[0]);
            galaxy(x, 0, 0, 0, 120 - each[1], 80, each[1]);
        }
        x.recipes(1000, 1000, 5000);
        galaxy(x, 0, 0, 0, 0, 200, 0);
    }

    // "the wind times what just became stars": of none nothing
    private static void noStarsNoWind() {
        Halofinder x = twoGalaxies();
        x.recipes(1000, 4, 5000);
        galaxy(x, 0, 0, 0, 200, 0, 0);
        x.recipes(4, 1000, 5000);
        galaxy(x, 0, 0, 200, 0, 0, 0);
    }

    // "by the recipes as they are now": of pictures kept before, in all their tree
    private static void recipesAsTheyAreNow() {
        Halofinder x = twoGalaxies();
        x.recipes(1000, 1000, 0);
        Scenes.keepPairs(x);
        galaxy(x, 1, 0, 0, 0, 200, 0);
        x.recipes(500, 0, 0);
        galaxy(x, 0, 0, 100, 100, 0, 0);
        galaxy(x, 1, 0, 50, 150, 0, 0);
        x.recipes(0, 1000, 5000);
        galaxy(x, 1, 0, 200, 0, 0, 0);
    }

    // "Returns how much ... all galaxies that do not go on have together": of none nothing
    private static void keptOfNothing() {
        Halofinder x = Scenes.four();
        DUE.is("without a picture", 0, x.kept());
        Scenes.keepNothing(x);
        DUE.is("without a halo", 0, x.kept());
        Scenes.keepPairs(x);
        DUE.is("two galaxies", 400, x.kept());
        x.universe(2);
        DUE.is("anew", 0, x.kept());
    }

    // "that do not go on": lost ones of whatever picture, and those of the last one, once each
    private static void keptOfLostOnes() {
        Halofinder x = Scenes.inALine(100, 104, 3100, 100);
        x.link(4, 3);
        x.keep();
        DUE.is("three grains", 300, x.kept());
        x.link(1, 4);
        x.keep();
        DUE.is("not lost yet, but it does not go on", 300, x.kept());
        x.keep();
        DUE.is("lost", 300, x.kept());
        x.link(4, 1);
        x.keep();
        DUE.is("a grain that was in none", 400, x.kept());
        x.keep();
        DUE.is("which goes on", 400, x.kept());
    }

    // "what was blown out with it"
    private static void keptWithWhatWasBlownOut() {
        Halofinder x = twoGalaxies();
        x.recipes(777, 333, 4321);
        Scenes.keepAll(x);
        DUE.is("in one", 400, x.kept());
        Scenes.keepPairs(x);
        DUE.is("in one of two", 400, x.kept());
        x.recipes(1000, 500, 5000);
        galaxy(x, 0, 0, 0, 0, 100, 100);
        DUE.is("half is blown out", 400, x.kept());
    }

    // The same of 64 grains in twelve pictures.
    private static void keptOfAllThereCanBe() {
        Halofinder x = new Halofinder();
        x.universe(8);
        x.recipes(999, 1, 5000);
        x.link(1, 1);
        for (int number = 0; number < 12; number++) {
            x.keep();
            DUE.is("kept with picture " + number, 6400, x.kept());
        }
        galaxy(x, 11, 63, 1, 99, 0, 0);
        x.recipes(500, 500, 100);
        galaxy(x, 0, 63, 50, 23, 25, 2);
        DUE.is("with other recipes", 6400, x.kept());
    }

    // "Throws IndexOutOfBoundsException if there is no such picture or halo"
    private static void noSuchGalaxies() {
        Halofinder x = Scenes.four();
        DUE.missing("no picture", () -> x.galaxy(0, 0, 0));
        Scenes.keepPairs(x);
        Scenes.keepNothing(x);
        int[][] none = {{-1, 0}, {2, 0}, {-2, 0}, {12, 0}, {Integer.MIN_VALUE, 0}, {Integer.MAX_VALUE, 0}, {0, 2},
            {0, -1}, {0, Integer.MIN_VALUE}, {0, Integer.MAX_VALUE}, {1, 0}, {1, -1}};
        for (int[] each : none) {
            DUE.missing("galaxy(" + each[0] + ", " + each[1] + ", 0)", () -> x.galaxy(each[0], each[1], 0));
            DUE.missing("galaxy(" + each[0] + ", " + each[1] + ", 4)", () -> x.galaxy(each[0], each[1], 4));
        }
        DUE.is("the last one", 200, x.galaxy(0, 1, 0));
    }

    // "what: 0 its hot gas ... 3 what was blown out"
    private static void galaxyNumbers() {
        Halofinder x = twoGalaxies();
        int[] wrong = {-1, 4, Integer.MIN_VALUE, Integer.MAX_VALUE};
        for (int what : wrong) {
            DUE.refused("galaxy(0, 1, " + what + ")", () -> x.galaxy(0, 1, what));
        }
        x.recipes(500, 400, 500);
        galaxy(x, 0, 1, 100, 40, 40, 20);
    }
}
