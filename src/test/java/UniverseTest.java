/** Promises 1 to 5: a new object, universe, ripple, draw, grain. */
public final class UniverseTest {
    private static final Due DUE = new Due("UniverseTest");

    public static void main(String[] args) {
        newObject();
        newObjectLinks();
        newObjectLeavesGasHot();
        newObjectIsSurveyed();
        newObjectSeesAThousandFar();
        universesOfEachSide();
        universeBeginsAnew();
        universeKeepsWhatWasTold();
        ripplesMove();
        ripplesOfEachPhase();
        ripplesRoundTheirPhaseDown();
        ripplesGoByTheLattice();
        ripplesTakeEdges();
        drawnRipples();
        drawnNumbers();
        grainsNowAndThen();
        DUE.end();
    }

    private static void newObject() {
        Halofinder x = new Halofinder();
        DUE.is("NONE", -1, Halofinder.NONE);
        DUE.is("x of the last grain", 3584, x.grain(-1, 15, 0));
        DUE.is("y of the last grain", 3584, x.grain(-1, 15, 1));
        DUE.is("its speed in x", 0, x.grain(-1, 15, 2));
        DUE.is("its speed in y", 0, x.grain(-1, 15, 3));
        DUE.throwsIt("grain 16", IndexOutOfBoundsException.class, () -> x.grain(-1, 16, 0));
        DUE.throwsIt("no picture yet", IndexOutOfBoundsException.class, () -> x.halos(0));
        x.ripple(1, 0, 300, 2);
        DUE.is("no pull with g 0", 0, x.force(4, true, false));
        DUE.is("nor by cells", 0, x.force(4, true, true));
        DUE.is("kept of nothing", 0, x.kept());
        DUE.is("seen of nothing", 0, x.seen());
        DUE.is("the age after a step", 2, x.step(1));
    }

    // Ripples of phase 2 bring the columns at 1536 and 3584 towards the one at 512.
    private static void newObjectLinks() {
        Halofinder x = new Halofinder();
        x.ripple(1, 0, 824, 2);
        DUE.is("halos linked over 200", 4, x.halos(-1));
        DUE.is("the first of them", 1 + 16 + 4096, x.grains(-1, 0));
        Halofinder y = new Halofinder();
        y.ripple(1, 0, 823, 2);
        DUE.is("no halos over 201, nor of one grain", 0, y.halos(-1));
        y.universe(2);
        y.ripple(1, 0, 1000, 4);
        DUE.is("halos of two grains", 2, y.halos(-1));
    }

    private static void newObjectIsSurveyed() {
        Halofinder x = new Halofinder();
        x.ripple(1, 0, 824, 2);
        x.keep();
        DUE.is("recipes of 0 leave gas hot", 300, x.galaxy(0, 0, 0));
        DUE.is("without stars none is seen", 0, x.seen());
        x.recipes(1000, 1000, 0);
        DUE.is("stars of the first halo", 300, x.galaxy(0, 0, 2));
        DUE.is("blown out without wind", 0, x.galaxy(0, 0, 3));
        DUE.is("two are seen from 0, 0 to 999", 2, x.seen());
        DUE.is("the first", 0, x.sky(0, 0));
        DUE.is("the second", 3, x.sky(1, 0));
        DUE.is("how far the first is", 724, x.sky(0, 1));
    }

    private static void newObjectLeavesGasHot() {
        Halofinder x = new Halofinder();
        x.universe(8);
        x.link(512, 64);
        x.keep();
        DUE.is("a hundred for each grain", 6400, x.galaxy(0, 0, 0));
        DUE.is("none is cold", 0, x.galaxy(0, 0, 1));
    }

    private static Halofinder twoJustInSight(int amplitude, int phase) {
        Halofinder x = new Halofinder();
        x.universe(2);
        x.ripple(0, 1, 1000, 4);
        x.ripple(0, 1, 22, 4);
        x.ripple(0, 2, 2, 8);
        x.ripple(2, 0, amplitude, phase);
        x.link(1, 1);
        x.recipes(1000, 1000, 0);
        x.keep();
        return x;
    }

    // Two grains at 6 and 2 in y, and at 999 or 1000 in x.
    private static void newObjectSeesAThousandFar() {
        Halofinder x = twoJustInSight(14, 1);
        DUE.is("x of grain 0", 999, x.grain(-1, 0, 0));
        DUE.is("y of grain 0", 6, x.grain(-1, 0, 1));
        DUE.is("y of grain 1", 2, x.grain(-1, 1, 1));
        DUE.is("both are seen at 999", 2, x.seen());
        DUE.is("the distance of the first", 999, x.sky(0, 1));
        DUE.is("the distance of the second", 999, x.sky(1, 1));
        DUE.is("a spectrum with a fibre of 0", 1, x.sky(0, 4));
        DUE.is("for both", 1, x.sky(1, 4));
        x.survey(0, 1);
        DUE.is("of alike stars the first has a spectrum", 1, x.sky(0, 4));
        DUE.is("the second has none then", 0, x.sky(1, 4));
        DUE.is("none is seen at 1000", 0, twoJustInSight(12, 0).seen());
    }

    private static void universesOfEachSide() {
        Halofinder x = new Halofinder();
        for (int side = 2; side <= 8; side++) {
            int last = side * side - 1;
            DUE.is("universe(" + side + ")", last + 1, x.universe(side));
            DUE.is("its last x", 2048 * (2 * side - 1) / side, x.grain(-1, last, 0));
            DUE.is("the y of grain 1", 2048 * 3 / side, x.grain(-1, 1, 1));
            DUE.is("the x of grain 1", 2048 / side, x.grain(-1, 1, 0));
            DUE.throwsIt("one more grain", IndexOutOfBoundsException.class, () -> x.grain(-1, last + 1, 0));
        }
        x.universe(3);
        DUE.is("x of grain 7", 3413, x.grain(-1, 7, 0));
        DUE.is("y of grain 7", 2048, x.grain(-1, 7, 1));
    }

    private static void universeBeginsAnew() {
        Halofinder x = Scenes.four();
        x.pull(10000, 10);
        Scenes.keepPairs(x);
        x.step(5);
        Scenes.keepPairs(x);
        x.universe(2);
        DUE.is("grain 0 in its lattice place", 1024, x.grain(-1, 0, 0));
        DUE.is("without speed in x", 0, x.grain(-1, 0, 2));
        DUE.is("without speed in y", 0, x.grain(-1, 0, 3));
        DUE.throwsIt("pictures are gone", IndexOutOfBoundsException.class, () -> x.halos(0));
        DUE.throwsIt("for grains too", IndexOutOfBoundsException.class, () -> x.grain(0, 0, 0));
        DUE.is("nothing is kept", 0, x.kept());
        x.ripple(1, 0, 1000, 4);
        DUE.is("the first picture again", 0, x.keep());
        DUE.is("what was in halos before is forgotten", 200, x.galaxy(0, 0, 0));
        DUE.is("the age was 1", 2, x.step(1));
    }

    private static void universeKeepsWhatWasTold() {
        Halofinder x = new Halofinder();
        x.pull(10000, 10);
        x.link(100, 1);
        x.recipes(500, 400, 500);
        x.observe(0, 1000, 77);
        x.survey(8, 4000);
        x.universe(2);
        x.ripple(1, 0, 1000, 4);
        x.ripple(0, 1, 100, 4);
        DUE.is("g and softness stay", -199, x.force(0, true, false));
        DUE.is("length and least number stay", 2, x.halos(-1));
        x.keep();
        DUE.is("recipes stay", 40, x.galaxy(0, 0, 2));
        DUE.is("the observer and depth stay", 1, x.seen());
        DUE.is("so that this is seen", 76, x.sky(0, 1));
        x.observe(0, 0, 1000);
        DUE.is("the mask stays", 1, x.seen());
        DUE.is("so that this is seen", 7, x.sky(0, 3));
    }

    private static void ripplesMove() {
        Halofinder x = new Halofinder();
        x.ripple(1, 0, 200, 0);
        long[] places = {652, 1396, 2420, 3724};
        long[] speeds = {140, -140, -140, 140};
        for (int i = 0; i < 4; i++) {
            DUE.is("x in column " + i, places[i], x.grain(-1, 4 * i, 0));
            DUE.is("speed in column " + i, speeds[i], x.grain(-1, 4 * i + 3, 2));
            DUE.is("y in column " + i, 1536, x.grain(-1, 4 * i + 1, 1));
            DUE.is("speed in y in column " + i, 0, x.grain(-1, 4 * i + 1, 3));
        }
        Halofinder y = new Halofinder();
        y.ripple(1, 2, 64, 3);
        DUE.is("x of grain 1", 512 + 59, y.grain(-1, 1, 0));
        DUE.is("y of grain 1", 1536 + 118, y.grain(-1, 1, 1));
        DUE.is("its speed in x", 59, y.grain(-1, 1, 2));
        DUE.is("its speed in y", 118, y.grain(-1, 1, 3));
        Halofinder z = new Halofinder();
        z.ripple(-1, 0, 1000, 0);
        DUE.is("below 0 is far right", 4096 + 512 - 703, z.grain(-1, 0, 0));
        DUE.is("its speed is not of the room", -703, z.grain(-1, 0, 2));
    }

    // With k 2 both columns of a side of 2 are 8 members of the row behind the phase.
    private static void ripplesOfEachPhase() {
        int[] row = {64, 59, 45, 24, 0, -24, -45, -59, -64, -59, -45, -24, 0, 24, 45, 59};
        Halofinder x = new Halofinder();
        for (int phase = 0; phase < 16; phase++) {
            x.universe(2);
            x.ripple(2, 0, 64, phase);
            DUE.is("phase " + phase, 2 * row[(phase + 8) % 16], x.grain(-1, 0, 2));
            DUE.is("phase " + phase + " in the other column", 2 * row[(phase + 8) % 16], x.grain(-1, 2, 2));
        }
    }

    private static void ripplesRoundTheirPhaseDown() {
        Halofinder x = new Halofinder();
        x.universe(3);
        x.ripple(-1, 0, 64, 0);
        DUE.is("the phase -2.66 is 13", -24, x.grain(-1, 0, 2));
        x.universe(3);
        x.ripple(1, 1, 64, 0);
        DUE.is("the phase 2.66 and 2.66 is 5", -24, x.grain(-1, 0, 3));
    }

    private static void ripplesGoByTheLattice() {
        Halofinder x = new Halofinder();
        x.ripple(1, 0, 1000, 0);
        x.ripple(1, 0, 64, 0);
        DUE.is("the second ripple adds 45", 703 + 45, x.grain(-1, 0, 2));
        DUE.is("to the place too", 512 + 703 + 45, x.grain(-1, 0, 0));
    }

    private static void ripplesTakeEdges() {
        Halofinder x = new Halofinder();
        x.universe(2);
        x.ripple(2, 0, 1000, 15);
        DUE.is("phase 15 and 8 is 7", -59 * 2000 / 64, x.grain(-1, 3, 2));
        x.universe(2);
        x.ripple(3, -3, -1000, 0);
        DUE.is("w is 64 where phases end at 0", -3000, x.grain(-1, 0, 2));
        DUE.is("likewise in y", 3000, x.grain(-1, 0, 3));
        x.universe(2);
        x.ripple(-3, 3, 1000, 0);
        DUE.is("the same the other way", -3000, x.grain(-1, 0, 2));
        x.ripple(0, 1, 0, 0);
        DUE.is("an amplitude of 0", 3000, x.grain(-1, 0, 3));
    }

    private static long rippleAsDrawn(Halofinder x, long seed, int power) {
        long drawn = seed;
        int[][] waves = {{0, 1}, {0, 2}, {1, -2}, {1, -1}, {1, 0}, {1, 1}, {1, 2}, {2, -2}, {2, -1}, {2, 0}, {2, 1}, {2, 2}};
        for (int[] wave : waves) {
            drawn = (1103515245L * drawn + 12345) & 0x7fffffffL;
            int number = (int) (drawn >> 16);
            int amplitude = power / (wave[0] * wave[0] + wave[1] * wave[1]);
            x.ripple(wave[0], wave[1], (number & 1) == 1 ? -amplitude : amplitude, number >> 1 & 15);
        }
        return drawn;
    }

    private static void drawnRipples() {
        int[] seeds = {0, 1, 7, 65535, 123456789, Integer.MAX_VALUE};
        int[] powers = {1000, 999, 400, 1, 0, 37};
        for (int n = 0; n < seeds.length; n++) {
            Halofinder x = new Halofinder();
            Halofinder y = new Halofinder();
            x.universe(5);
            y.universe(5);
            DUE.is("draw(" + seeds[n] + ")", rippleAsDrawn(y, seeds[n], powers[n]), x.draw(seeds[n], powers[n]));
            for (int grain = 0; grain < 25; grain++) {
                for (int what = 0; what < 4; what++) {
                    DUE.is("grain " + grain + " drawn by " + seeds[n], y.grain(-1, grain, what), x.grain(-1, grain, what));
                }
            }
        }
    }

    private static void drawnNumbers() {
        Halofinder x = new Halofinder();
        x.universe(8);
        DUE.is("draw(7, 400)", 1662195227, x.draw(7, 400));
        DUE.is("draw(2147483647, 1000)", 561616019, x.draw(2147483647, 1000));
        x.universe(8);
        x.draw(3, 0);
        DUE.is("no power moves nothing", 256, x.grain(-1, 0, 0));
    }

    private static void grainsNowAndThen() {
        Halofinder x = Scenes.four();
        Scenes.keepPairs(x);
        x.step(1);
        Scenes.keepPairs(x);
        DUE.is("x then", 24, x.grain(0, 0, 0));
        DUE.is("y then", 924, x.grain(0, 0, 1));
        DUE.is("the speed in x then", -1000, x.grain(0, 0, 2));
        DUE.is("the speed in y then", -100, x.grain(0, 0, 3));
        DUE.is("x now", 4096 + 24 - 62, x.grain(-1, 0, 0));
        DUE.is("y now", 924 - 6, x.grain(-1, 0, 1));
        DUE.is("the later picture", 4096 + 24 - 62, x.grain(1, 0, 0));
        DUE.throwsIt("no picture 2", IndexOutOfBoundsException.class, () -> x.grain(2, 0, 0));
        DUE.throwsIt("no picture -2", IndexOutOfBoundsException.class, () -> x.grain(-2, 0, 0));
        DUE.throwsIt("no grain 4 then", IndexOutOfBoundsException.class, () -> x.grain(0, 4, 0));
        DUE.throwsIt("no grain -1", IndexOutOfBoundsException.class, () -> x.grain(0, -1, 0));
        DUE.throwsIt("no fourth number", IllegalArgumentException.class, () -> x.grain(0, 0, 4));
        DUE.throwsIt("nor one below 0", IllegalArgumentException.class, () -> x.grain(-1, 0, -1));
        DUE.throwsIt("no grain goes first", IndexOutOfBoundsException.class, () -> x.grain(0, 4, 4));
    }
}
