/** Promises 27 and 28: pairs, voidCells. */
public final class CountTest {
    private static final Due DUE = new Due("CountTest");

    public static void main(String[] args) {
        pairsByDistance();
        pairsOfNow();
        pairsOfOnePlace();
        voidsOfUniverses();
        voidsApart();
        voidsAcrossTheEdge();
        voidsHangTogetherBySides();
        DUE.end();
    }

    private static void pairs(Halofinder x, int from, int to, int want) {
        DUE.is("pairs(" + from + ", " + to + ")", want, x.pairs(from, to));
    }

    // Ways of 1024 and 2048 in x and y: 1024, 1448.1, 2048, 2289.7 and 2896.3 far.
    private static void pairsByDistance() {
        Halofinder x = new Halofinder();
        pairs(x, 0, 1024, 0);
        pairs(x, 1024, 1025, 32);
        pairs(x, 1025, 1448, 0);
        pairs(x, 1448, 1449, 32);
        pairs(x, 1449, 2048, 0);
        pairs(x, 2048, 2049, 16);
        pairs(x, 2289, 2290, 32);
        pairs(x, 2896, 2897, 8);
        pairs(x, 2897, Integer.MAX_VALUE, 0);
        pairs(x, 0, Integer.MAX_VALUE, 120);
        pairs(x, 1024, 1024, 0);
        pairs(x, 2000, 1000, 0);
        pairs(x, 0, -5, 0);
        pairs(x, Integer.MAX_VALUE, Integer.MAX_VALUE, 0);
        pairs(x, 5, Integer.MIN_VALUE, 0);
        DUE.throwsIt("pairs(-1, 5)", IllegalArgumentException.class, () -> x.pairs(-1, 5));
        DUE.throwsIt("pairs(-1, -1)", IllegalArgumentException.class, () -> x.pairs(-1, -1));
        DUE.throwsIt("pairs below all", IllegalArgumentException.class, () -> x.pairs(Integer.MIN_VALUE, 5));
    }

    private static void pairsOfNow() {
        Halofinder x = Scenes.four();
        pairs(x, 48, 49, 2);
        pairs(x, 0, 48, 0);
        x.step(1);
        pairs(x, 48, 49, 0);
        pairs(x, 76, 77, 2);
    }

    private static void pairsOfOnePlace() {
        Halofinder x = new Halofinder();
        x.universe(2);
        x.ripple(1, 0, 1000, 4);
        x.ripple(1, 0, 24, 4);
        pairs(x, 0, 1, 2);
    }

    private static void voids(Halofinder x, int want) {
        DUE.is("voidCells()", want, x.voidCells());
    }

    private static void voidsOfUniverses() {
        Halofinder x = new Halofinder();
        voids(x, 48);
        x.universe(2);
        voids(x, 60);
        x.universe(8);
        voids(x, 0);
        x.universe(7);
        voids(x, 15);
    }

    // The columns 4 and 7 are left by all grains, or the lines 4 and 7.
    private static void voidsApart() {
        Halofinder x = new Halofinder();
        x.universe(8);
        x.ripple(1, 0, 300, 0);
        voids(x, 8);
        x.universe(8);
        x.ripple(0, 1, 300, 0);
        voids(x, 8);
    }

    // The columns 0 and 7 are left by all grains, or the lines 0 and 7.
    private static void voidsAcrossTheEdge() {
        Halofinder x = new Halofinder();
        x.universe(8);
        x.ripple(1, 0, 700, 12);
        voids(x, 16);
        x.universe(8);
        x.ripple(0, 1, 700, 12);
        voids(x, 16);
    }

    private static void voidsHangTogetherBySides() {
        Halofinder x = new Halofinder();
        x.universe(8);
        x.ripple(1, 0, 300, 0);
        x.ripple(0, 1, 300, 0);
        voids(x, 28);
        x.universe(6);
        x.ripple(1, -2, 50, 0);
        DUE.is("a void of 28, were corners enough; it is", 13, x.voidCells());
    }
}
