/** Promises 20 to 22: recipes, galaxy, kept. */
public final class GalaxyTest {
    private static final Due DUE = new Due("GalaxyTest");

    public static void main(String[] args) {
        gasBecomesStars();
        galaxiesHandOn();
        galaxiesByTheRecipesOfNow();
        windTakesNoMoreThanThereIs();
        restsAreDropped();
        gasComesOnce();
        lostGalaxiesAreKept();
        noSuchGalaxies();
        DUE.end();
    }

    private static void galaxy(Halofinder x, int picture, int halo, int... want) {
        for (int what = 0; what < 4; what++) {
            DUE.is("galaxy(" + picture + ", " + halo + ", " + what + ")", want[what], x.galaxy(picture, halo, what));
        }
    }

    private static void gasBecomesStars() {
        Halofinder x = Scenes.four();
        Scenes.keepPairs(x);
        galaxy(x, 0, 0, 200, 0, 0, 0);
        x.recipes(500, 400, 500);
        galaxy(x, 0, 0, 100, 40, 40, 20);
        galaxy(x, 0, 1, 100, 40, 40, 20);
        x.recipes(500, 0, 5000);
        galaxy(x, 0, 0, 100, 100, 0, 0);
        x.recipes(0, 1000, 5000);
        galaxy(x, 0, 0, 200, 0, 0, 0);
        x.recipes(1000, 1000, 1000);
        galaxy(x, 0, 0, 0, 0, 200, 0);
    }

    private static void galaxiesHandOn() {
        Halofinder x = Scenes.four();
        x.recipes(500, 400, 500);
        Scenes.keepPairs(x);
        Scenes.keepAll(x);
        galaxy(x, 0, 1, 100, 40, 40, 20);
        galaxy(x, 1, 0, 100, 72, 152, 76);
        DUE.is("all is kept", 400, x.kept());
        Scenes.keepPairs(x);
        galaxy(x, 2, 1, 0, 0, 0, 0);
        DUE.is("all is kept in one", 400, x.kept());
    }

    private static void galaxiesByTheRecipesOfNow() {
        Halofinder x = Scenes.four();
        Scenes.keepPairs(x);
        Scenes.keepAll(x);
        galaxy(x, 1, 0, 400, 0, 0, 0);
        x.recipes(500, 400, 500);
        galaxy(x, 1, 0, 100, 72, 152, 76);
        x.recipes(0, 0, 0);
        galaxy(x, 1, 0, 400, 0, 0, 0);
    }

    private static void windTakesNoMoreThanThereIs() {
        Halofinder x = Scenes.four();
        Scenes.keepPairs(x);
        x.recipes(1000, 500, 5000);
        galaxy(x, 0, 0, 0, 0, 100, 100);
        x.recipes(1000, 500, 1000);
        galaxy(x, 0, 0, 0, 0, 100, 100);
        x.recipes(1000, 500, 999);
        galaxy(x, 0, 0, 0, 1, 100, 99);
    }

    private static void restsAreDropped() {
        Halofinder x = Scenes.four();
        Scenes.keepPairs(x);
        x.recipes(333, 500, 350);
        galaxy(x, 0, 0, 134, 22, 33, 11);
        x.recipes(4, 999, 5000);
        galaxy(x, 0, 0, 200, 0, 0, 0);
        x.recipes(5, 1000, 5000);
        galaxy(x, 0, 0, 199, 0, 1, 0);
    }

    private static void gasComesOnce() {
        Halofinder x = Scenes.nine();
        x.link(10, 3);
        x.keep();
        x.link(10, 2);
        x.keep();
        x.link(10, 3);
        x.keep();
        x.link(2000, 1);
        x.keep();
        galaxy(x, 0, 0, 400, 0, 0, 0);
        galaxy(x, 1, 0, 400, 0, 0, 0);
        galaxy(x, 1, 1, 200, 0, 0, 0);
        galaxy(x, 2, 0, 400, 0, 0, 0);
        galaxy(x, 3, 0, 900, 0, 0, 0);
        DUE.is("a hundred for each grain", 900, x.kept());
    }

    private static void lostGalaxiesAreKept() {
        Halofinder x = Scenes.four();
        DUE.is("nothing yet", 0, x.kept());
        x.recipes(500, 400, 500);
        Scenes.keepNothing(x);
        DUE.is("still nothing", 0, x.kept());
        Scenes.keepPairs(x);
        DUE.is("two that do not go on yet", 400, x.kept());
        Scenes.keepNothing(x);
        Scenes.keepNothing(x);
        Scenes.keepPairs(x);
        galaxy(x, 1, 0, 100, 40, 40, 20);
        galaxy(x, 4, 0, 0, 0, 0, 0);
        DUE.is("two that are lost", 400, x.kept());
    }

    private static void noSuchGalaxies() {
        Halofinder x = Scenes.four();
        DUE.throwsIt("no picture", IndexOutOfBoundsException.class, () -> x.galaxy(0, 0, 0));
        Scenes.keepPairs(x);
        DUE.throwsIt("none for now", IndexOutOfBoundsException.class, () -> x.galaxy(-1, 0, 0));
        DUE.throwsIt("no second picture", IndexOutOfBoundsException.class, () -> x.galaxy(1, 0, 0));
        DUE.throwsIt("no third halo", IndexOutOfBoundsException.class, () -> x.galaxy(0, 2, 0));
        DUE.throwsIt("no halo -1", IndexOutOfBoundsException.class, () -> x.galaxy(0, -1, 0));
        DUE.throwsIt("no fourth number", IllegalArgumentException.class, () -> x.galaxy(0, 0, 4));
        DUE.throwsIt("nor one below 0", IllegalArgumentException.class, () -> x.galaxy(0, 0, -1));
        DUE.throwsIt("no halo goes first", IndexOutOfBoundsException.class, () -> x.galaxy(0, 2, 4));
    }
}
