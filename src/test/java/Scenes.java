/** Universes whose grains lie where a test can reckon with them by hand. */
final class Scenes {
    private Scenes() {
    }

    /**
     * Four grains: 0 at 24, 924; 1 at 24, 3172; 2 at 4072, 924; 3 at 4072, 3172. The speeds in x are
     * -1000, -1000, 1000, 1000, those in y -100, 100, -100, 100.
     */
    static Halofinder four() {
        Halofinder x = new Halofinder();
        x.universe(2);
        x.ripple(1, 0, 1000, 4);
        x.ripple(0, 1, 100, 4);
        return x;
    }

    static int keepAll(Halofinder x) {
        x.link(1848, 1);
        return x.keep();
    }

    static int keepPairs(Halofinder x) {
        x.link(100, 1);
        return x.keep();
    }

    static int keepSingles(Halofinder x) {
        x.link(1, 1);
        return x.keep();
    }

    static int keepNothing(Halofinder x) {
        x.link(1, 2);
        return x.keep();
    }

    /**
     * Nine grains, grain 3 i + j: x is 1244, 1248, 3713 by i with a speed of 562, -800, 300; y is
     * 1722, 2048, 2050 by j with a speed of 1040, 0, -1363. Linked over 10 they are four halos:
     * 1 2 4 5, then 0 3, then 7 8, then 6.
     */
    static Halofinder nine() {
        Halofinder x = new Halofinder();
        x.universe(3);
        x.ripple(1, 0, 800, 0);
        x.ripple(0, 1, 1000, 12);
        x.ripple(0, 1, 480, 12);
        return x;
    }
}
