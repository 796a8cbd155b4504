/** Promises 6 to 9: pull, force, step, momentum. */
public final class ForceTest {
    private static final Due DUE = new Due("ForceTest");

    public static void main(String[] args) {
        forcesOneByOne();
        forcesByCells();
        farCellsPullAsOne();
        farCellsHaveTheirMiddle();
        middlesOfCellsDropTheRest();
        softnessWeakens();
        stepsAddForcesFirst();
        stepsSlowDown();
        stepsEndAtTheLastAge();
        momentumIsSummed();
        momentumIsKept();
        DUE.end();
    }

    // All ways here are -2048, so that the lower grain is pulled by as much below 0.
    private static void forcesOneByOne() {
        Halofinder x = new Halofinder();
        x.universe(2);
        x.pull(10000, 10);
        long[] inX = {-6, -6, 6, 6};
        long[] inY = {-6, 2, -2, 6};
        for (int grain = 0; grain < 4; grain++) {
            DUE.is("force in x on " + grain, inX[grain], x.force(grain, true, false));
            DUE.is("force in y on " + grain, inY[grain], x.force(grain, false, false));
        }
        DUE.throwsIt("no grain 4", IndexOutOfBoundsException.class, () -> x.force(4, true, false));
        DUE.throwsIt("no grain -1", IndexOutOfBoundsException.class, () -> x.force(-1, false, true));
    }

    // By cells each way goes from the grain itself, and is -2048 for all of them.
    private static void forcesByCells() {
        Halofinder x = new Halofinder();
        x.universe(2);
        x.pull(10000, 10);
        for (int grain = 0; grain < 4; grain++) {
            DUE.is("force by cells in x on " + grain, -6, x.force(grain, true, true));
            DUE.is("force by cells in y on " + grain, -6, x.force(grain, false, true));
        }
    }

    // Grain 0 at 1024, 54 and grain 1 at 1024, 6; the others lie two cells away in one cell.
    private static void farCellsPullAsOne() {
        Halofinder x = new Halofinder();
        x.universe(2);
        x.ripple(0, 1, 1000, 4);
        x.ripple(0, 2, 15, 8);
        x.pull(10000, 10);
        DUE.is("y of grain 2", 54, x.grain(-1, 2, 1));
        DUE.is("y of grain 3", 6, x.grain(-1, 3, 1));
        DUE.is("two pulls from the middle of a cell", -8, x.force(0, true, true));
        DUE.is("one from each", -8, x.force(0, true, false));
        DUE.is("a near one pulls by itself", -199, x.force(0, false, true));
        DUE.is("and back", 199, x.force(1, false, true));
    }

    // Grains 7 and 8 are in the cell across from grain 0, by -1627 in x, by 326 and 328 in y.
    private static void farCellsHaveTheirMiddle() {
        Halofinder x = Scenes.nine();
        x.pull(10000, 10);
        DUE.is("in x: 344 from near, -6 from 6, twice -5", 328, x.force(0, true, true));
        DUE.is("in y: four times 30, twice 1", 122, x.force(0, false, true));
        x.pull(8423, 10);
        DUE.is("by cells: four times 25, twice 1", 102, x.force(0, false, true));
        DUE.is("one by one: four times 25, 0 and 1", 101, x.force(0, false, false));
    }

    // Now 327 and 330 in y: from the middle, 328, g 8390 pulls by 0, from 329 it would by 1.
    private static void middlesOfCellsDropTheRest() {
        Halofinder x = new Halofinder();
        x.universe(3);
        x.ripple(1, 0, 800, 0);
        x.ripple(0, 1, 1000, 12);
        x.ripple(0, 1, 479, 12);
        x.pull(8390, 10);
        DUE.is("y of grain 0", 1721, x.grain(-1, 0, 1));
        DUE.is("y of grain 8", 2051, x.grain(-1, 8, 1));
        DUE.is("by cells: four times 25, twice 0", 100, x.force(0, false, true));
        DUE.is("one by one: four times 25, 0 and 1", 101, x.force(0, false, false));
    }

    private static void softnessWeakens() {
        Halofinder x = Scenes.four();
        x.pull(10000, 10);
        DUE.is("softness 10", -199, x.force(0, true, false));
        x.pull(10000, 1000);
        DUE.is("softness 1000", 0, x.force(0, true, false));
        x.pull(10000, 100);
        DUE.is("softness 100", -39, x.force(0, true, false));
        x.pull(5000, 100);
        DUE.is("half of g", -19, x.force(0, true, false));
        x.pull(0, 100);
        DUE.is("no g", 0, x.force(0, true, false));
    }

    // As in Scenes.four, but with y at 1024 and 3072.
    private static void stepsAddForcesFirst() {
        Halofinder x = new Halofinder();
        x.universe(2);
        x.ripple(1, 0, 1000, 4);
        x.pull(10000, 10);
        DUE.is("a step", 2, x.step(1));
        long[] speedX = {-1199, -1199, 1199, 1199};
        long[] speedY = {-8, 0, 0, 8};
        long[] placeX = {4046, 4046, 50, 50};
        for (int grain = 0; grain < 4; grain++) {
            DUE.is("speed in x of " + grain, speedX[grain], x.grain(-1, grain, 2));
            DUE.is("speed in y of " + grain, speedY[grain], x.grain(-1, grain, 3));
            DUE.is("x of " + grain, placeX[grain], x.grain(-1, grain, 0));
            DUE.is("y of " + grain, grain % 2 == 0 ? 1024 : 3072, x.grain(-1, grain, 1));
        }
    }

    private static void stepsSlowDown() {
        Halofinder x = new Halofinder();
        x.universe(2);
        x.ripple(2, 0, 500, 0);
        DUE.is("x before", 24, x.grain(-1, 0, 0));
        x.step(1);
        DUE.is("by 1000 by 16", 4096 + 24 - 62, x.grain(-1, 0, 0));
        x.step(1);
        DUE.is("by 1000 by 32", 4096 + 24 - 62 - 31, x.grain(-1, 0, 0));
        DUE.is("three at once", 6, x.step(3));
        DUE.is("by 48, 64 and 80", 4096 + 24 - 62 - 31 - 20 - 15 - 12, x.grain(-1, 0, 0));
        DUE.is("speed stays without forces", -1000, x.grain(-1, 0, 2));
    }

    private static void stepsEndAtTheLastAge() {
        Halofinder x = new Halofinder();
        for (int turn = 1; turn <= 49; turn++) {
            DUE.is("twenty steps", 1 + 20 * turn, x.step(20));
        }
        DUE.throwsIt("the age would be 1001", IllegalStateException.class, () -> x.step(20));
        DUE.is("steps up to the last age", 1000, x.step(19));
        DUE.throwsIt("no step more", IllegalStateException.class, () -> x.step(1));
        DUE.throwsIt("a wrong number goes first", IllegalArgumentException.class, () -> x.step(0));
        DUE.throwsIt("too many at once go first", IllegalArgumentException.class, () -> x.step(21));
        x.universe(4);
        DUE.is("a new universe is young", 2, x.step(1));
    }

    private static void momentumIsSummed() {
        Halofinder x = new Halofinder();
        x.universe(2);
        x.ripple(2, 0, 500, 0);
        x.ripple(0, 2, 10, 0);
        DUE.is("four times -1000", -4000, x.momentum(true));
        DUE.is("four times -20", -80, x.momentum(false));
    }

    private static void momentumIsKept() {
        Halofinder x = new Halofinder();
        x.universe(8);
        x.draw(7, 1000);
        x.ripple(1, 1, 77, 3);
        x.pull(10000, 10);
        long inX = x.momentum(true);
        long inY = x.momentum(false);
        for (int turn = 0; turn < 20; turn++) {
            x.step(turn + 1);
            DUE.is("momentum in x", inX, x.momentum(true));
            DUE.is("momentum in y", inY, x.momentum(false));
        }
    }
}
