/** Promises 10 to 15: link, halos, halosAnew, grains, ofHalo, bound. */
public final class HaloTest {
    private static final Due DUE = new Due("HaloTest");

    public static void main(String[] args) {
        linksOverALength();
        halosNeedTheLeastNumber();
        halosInTheirOrder();
        allGrainsInOneHalo();
        halosAnewAreAsMany();
        picturesKeepTheirHalos();
        whatAHaloIs();
        middlesRoundDown();
        middlesStayInTheRoom();
        boundGrainsByAnEdge();
        unboundOneByOne();
        pushesOfOne();
        boundAmongHolds();
        boundInAPicture();
        noSuchHalos();
        DUE.end();
    }

    private static void linksOverALength() {
        Halofinder x = Scenes.four();
        x.link(48, 2);
        DUE.is("linked over 48, across the edge", 2, x.halos(-1));
        x.link(47, 2);
        DUE.is("not over 47", 0, x.halos(-1));
        Halofinder y = Scenes.nine();
        y.link(4, 1);
        DUE.is("2 and 4 away are linked one after the other", 4, y.halos(-1));
        y.link(3, 1);
        DUE.is("2 away alone", 6, y.halos(-1));
        y.link(1, 1);
        DUE.is("none", 9, y.halos(-1));
        y.link(326, 2);
        DUE.is("326 away, straight", 6, Long.bitCount(y.grains(-1, 0)));
        y.link(325, 2);
        DUE.is("not over 325", 4, Long.bitCount(y.grains(-1, 0)));
        diagonalLinks();
    }

    // A slanting ripple brings grain 0 and grain 3 of four together, slantwise.
    private static void diagonalLinks() {
        Halofinder x = new Halofinder();
        x.universe(2);
        x.ripple(1, 1, 1000, 0);
        DUE.is("x of grain 0", 24, x.grain(-1, 0, 0));
        DUE.is("y of grain 1", 4072, x.grain(-1, 1, 1));
        DUE.is("x of grain 3", 2072, x.grain(-1, 3, 0));
        DUE.is("four pairs are 2000.6 far", 4, x.pairs(2000, 2001));
        x.link(2000, 2);
        DUE.is("which is above 2000", 0, x.halos(-1));
        x.universe(2);
        x.ripple(1, 0, 1000, 4);
        x.ripple(0, 1, 1000, 4);
        x.link(67, 4);
        DUE.is("48 and 48 away slantwise, but linked by sides", 1, x.halos(-1));
        x.link(47, 2);
        DUE.is("no sides", 0, x.halos(-1));
    }

    private static void halosNeedTheLeastNumber() {
        Halofinder x = Scenes.nine();
        int[] many = {4, 3, 1, 1, 0};
        for (int least = 1; least <= 5; least++) {
            x.link(10, least);
            DUE.is("halos of " + least, many[least - 1], x.halos(-1));
        }
        x.link(10, 64);
        DUE.is("halos of 64", 0, x.halos(-1));
    }

    private static void halosInTheirOrder() {
        Halofinder x = Scenes.nine();
        x.link(10, 1);
        DUE.is("the greatest", 2 + 4 + 16 + 32, x.grains(-1, 0));
        DUE.is("the lower of two", 1 + 8, x.grains(-1, 1));
        DUE.is("the higher of two", 128 + 256, x.grains(-1, 2));
        DUE.is("the one alone", 64, x.grains(-1, 3));
        x.link(3, 1);
        long[] all = {2 + 4, 16 + 32, 128 + 256, 1, 8, 64};
        for (int halo = 0; halo < 6; halo++) {
            DUE.is("halo " + halo, all[halo], x.grains(-1, halo));
        }
    }

    private static void allGrainsInOneHalo() {
        Halofinder x = new Halofinder();
        x.universe(8);
        x.link(512, 64);
        DUE.is("one halo", 1, x.halos(-1));
        DUE.is("with all bits", -1, x.grains(-1, 0));
        DUE.is("of 64 grains", 64, x.ofHalo(-1, 0, 0));
        x.link(511, 1);
        DUE.is("64 halos", 64, x.halos(-1));
        DUE.is("the last with the highest bit", Long.MIN_VALUE, x.grains(-1, 63));
        DUE.throwsIt("no 64th", IndexOutOfBoundsException.class, () -> x.grains(-1, 64));
    }

    private static void halosAnewAreAsMany() {
        Halofinder x = new Halofinder();
        x.universe(8);
        x.draw(99, 700);
        for (int length = 1; length < 1200; length += 31) {
            x.link(length, 1 + length % 4);
            DUE.is("halosAnew over " + length, x.halos(-1), x.halosAnew(-1));
        }
        Halofinder y = Scenes.nine();
        int[] many = {4, 3, 1, 1, 0};
        for (int least = 1; least <= 5; least++) {
            y.link(10, least);
            DUE.is("halosAnew of " + least, many[least - 1], y.halosAnew(-1));
        }
        DUE.throwsIt("no picture", IndexOutOfBoundsException.class, () -> y.halosAnew(0));
    }

    private static void picturesKeepTheirHalos() {
        Halofinder x = Scenes.nine();
        x.link(10, 2);
        x.keep();
        x.link(1, 1);
        x.step(5);
        DUE.is("halos then", 3, x.halos(0));
        DUE.is("anew too", 3, x.halosAnew(0));
        DUE.is("the greatest then", 2 + 4 + 16 + 32, x.grains(0, 0));
        DUE.is("its middle then", 1246, x.ofHalo(0, 0, 1));
        DUE.is("its spin then", -4976, x.ofHalo(0, 0, 5));
        DUE.is("halos now", 9, x.halos(-1));
        DUE.throwsIt("no fourth then", IndexOutOfBoundsException.class, () -> x.grains(0, 3));
    }

    private static void whatAHaloIs() {
        Halofinder x = Scenes.nine();
        x.link(10, 2);
        long[] all = {4, 1246, 2049, -119, -682, -4976};
        for (int what = 0; what < 6; what++) {
            DUE.is("what " + what, all[what], x.ofHalo(-1, 0, what));
        }
        DUE.is("of two grains", 2, x.ofHalo(-1, 1, 0));
        DUE.is("a speed above 0", 300, x.ofHalo(-1, 2, 3));
        DUE.throwsIt("no sixth number", IllegalArgumentException.class, () -> x.ofHalo(-1, 0, 6));
        DUE.throwsIt("nor one below 0", IllegalArgumentException.class, () -> x.ofHalo(-1, 0, -1));
        DUE.throwsIt("no halo goes first", IndexOutOfBoundsException.class, () -> x.ofHalo(-1, 3, 6));
        DUE.throwsIt("no picture goes first", IndexOutOfBoundsException.class, () -> x.ofHalo(0, 0, 6));
    }

    // Grain 0 is at 1246 in x, grain 3 at 1245.
    private static void middlesRoundDown() {
        Halofinder x = new Halofinder();
        x.universe(3);
        x.ripple(1, 0, 803, 0);
        x.link(10, 2);
        DUE.is("grains 0 and 3", 9, x.grains(-1, 0));
        DUE.is("x of grain 0", 1246, x.grain(-1, 0, 0));
        DUE.is("the middle", 1245, x.ofHalo(-1, 0, 1));
        DUE.is("its y", 682, x.ofHalo(-1, 0, 2));
        DUE.is("564 and -803 by 2", -120, x.ofHalo(-1, 0, 3));
    }

    private static void middlesStayInTheRoom() {
        Halofinder x = Scenes.four();
        x.link(100, 2);
        DUE.is("between 24 and 4072", 0, x.ofHalo(-1, 0, 1));
        x.ripple(2, 0, 1, 0);
        DUE.is("between 22 and 4070", 4094, x.ofHalo(-1, 0, 1));
        x.ripple(0, 2, 500, 0);
        DUE.is("924 less 1000", 4096 - 76, x.ofHalo(-1, 0, 2));
    }

    // Two pairs, 2000 apart, with speeds of -24 and 24: a push of 576 each.
    private static void boundGrainsByAnEdge() {
        Halofinder x = new Halofinder();
        x.universe(2);
        x.ripple(1, 0, 24, 4);
        x.link(2000, 2);
        DUE.is("grains 0 and 2", 5, x.grains(-1, 0));
        x.pull(9005, 100);
        DUE.is("a hold of 288", 5, x.bound(-1, 0));
        x.pull(9004, 100);
        DUE.is("a hold of 287: the lowest is left out", 4, x.bound(-1, 0));
        DUE.is("in the other pair too", 8, x.bound(-1, 1));
        x.pull(0, 100);
        DUE.is("no hold: one stays alone", 4, x.bound(-1, 0));
    }

    // Speeds are 45, -64 and 24 by i, and holds 0: 3 4 5 go first, then 0 1 2.
    private static void unboundOneByOne() {
        Halofinder x = new Halofinder();
        x.universe(3);
        x.link(1500, 9);
        DUE.is("at rest all are bound", 511, x.bound(-1, 0));
        x.ripple(1, 0, 64, 0);
        DUE.is("those of the same speed", 448, x.bound(-1, 0));
        x.pull(1, 100);
        DUE.is("holds of 64 by more are 0", 448, x.bound(-1, 0));
        x.pull(300, 100);
        DUE.is("a hold of 59 is not enough for a push of 121", 448, x.bound(-1, 0));
        x.pull(310, 100);
        DUE.is("one of 62 is", 1 + 2 + 4 + 64 + 128 + 256, x.bound(-1, 0));
        x.pull(10000, 100);
        DUE.is("all are held", 511, x.bound(-1, 0));
    }

    // Speeds are -1 for 3 4 5 and 0 for all others, -1 together: the others have a push of 1.
    private static void pushesOfOne() {
        Halofinder x = new Halofinder();
        x.universe(3);
        x.ripple(1, 0, 1, 0);
        x.link(1500, 9);
        DUE.is("a push of 1 is above no hold", 8 + 16 + 32, x.bound(-1, 0));
    }

    private static void boundAmongHolds() {
        Halofinder x = Scenes.nine();
        x.link(10, 1);
        DUE.is("one alone", 64, x.bound(-1, 3));
        x.pull(10000, 100);
        long bound = x.bound(-1, 0);
        DUE.is("no others than the halo's", 0, bound & ~x.grains(-1, 0));
    }

    private static void boundInAPicture() {
        Halofinder x = new Halofinder();
        x.universe(2);
        x.ripple(1, 0, 24, 4);
        x.link(2000, 2);
        x.pull(9005, 100);
        x.keep();
        x.link(1, 1);
        x.step(3);
        DUE.is("with g as then", 5, x.bound(0, 0));
        x.pull(9004, 100);
        DUE.is("with g as now", 4, x.bound(0, 0));
        DUE.is("another halo", 8, x.bound(0, 1));
        DUE.throwsIt("no third halo", IndexOutOfBoundsException.class, () -> x.bound(0, 2));
        DUE.throwsIt("no second picture", IndexOutOfBoundsException.class, () -> x.bound(1, 0));
    }

    private static void noSuchHalos() {
        Halofinder x = Scenes.four();
        x.link(100, 1);
        DUE.throwsIt("halos(0)", IndexOutOfBoundsException.class, () -> x.halos(0));
        DUE.throwsIt("halos(-2)", IndexOutOfBoundsException.class, () -> x.halos(-2));
        DUE.throwsIt("grains(-1, 2)", IndexOutOfBoundsException.class, () -> x.grains(-1, 2));
        DUE.throwsIt("grains(-1, -1)", IndexOutOfBoundsException.class, () -> x.grains(-1, -1));
        DUE.throwsIt("ofHalo(-1, 2, 0)", IndexOutOfBoundsException.class, () -> x.ofHalo(-1, 2, 0));
        DUE.throwsIt("bound(-1, 2)", IndexOutOfBoundsException.class, () -> x.bound(-1, 2));
        x.keep();
        DUE.is("halos(0)", 2, x.halos(0));
        DUE.throwsIt("halos(1)", IndexOutOfBoundsException.class, () -> x.halos(1));
    }
}
