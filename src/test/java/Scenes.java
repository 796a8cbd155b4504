/** Universes whose grains lie where a test can reckon with them by hand. */
final class Scenes {
    private Scenes() {
    }

    /**
     * Four grains: 0 at 24, 924; 1 at 24, 3172; 2 at 4072, 924; 3 at 4072, 3172. The speeds in x are
     * -1000, -1000, 1000, 1000, those in y -100, 100, -100, 100.
     */
    static Halofinder four() {
        Halofinder x = new Halofinder();
        x.universe(2);
        x.ripple(1, 0, 1000, 4);
        x.ripple(0, 1, 100, 4);
        return x;
    }

    static int keepAll(Halofinder x) {
        x.link(1848, 1);
        return x.keep();
    }

    static int keepPairs(Halofinder x) {
        x.link(100, 1);
        return x.keep();
    }

    static int keepSingles(Halofinder x) {
        x.link(1, 1);
        return x.keep();
    }

    static int keepNothing(Halofinder x) {
        x.link(1, 2);
        return x.keep();
    }

    /**
     * Nine grains, grain 3 i + j: x is 1244, 1248, 3713 by i with a speed of 562, -800, 300; y is
     * 1722, 2048, 2050 by j with a speed of 1040, 0, -1363. Linked over 10 they are four halos:
     * 1 2 4 5, then 0 3, then 7 8, then 6.
     */
    static Halofinder nine() {
        Halofinder x = new Halofinder();
        x.universe(3);
        x.ripple(1, 0, 800, 0);
        x.ripple(0, 1, 1000, 12);
        x.ripple(0, 1, 480, 12);
        return x;
    }

    /**
     * Four grains at places that are told, in x and in y, brought there by ripples: each has the speed by
     * which it was displaced. Of these four speeds, the sums with the signs ++++, ++--, +-+- and +--+ must
     * divide by 4. A place below 0 or above 4095 stands for one or more ways round the room.
     */
    static Halofinder placed(int[] xs, int[] ys) {
        Halofinder x = new Halofinder();
        x.universe(2);
        displace(x, true, xs[0] - 1024, xs[1] - 1024, xs[2] - 3072, xs[3] - 3072);
        displace(x, false, ys[0] - 1024, ys[2] - 1024, ys[1] - 3072, ys[3] - 3072);
        return x;
    }

    /** The same in a line along x, all at 2048 in y. */
    static Halofinder inALine(int... xs) {
        return placed(xs, new int[] {2048, 2048, 2048, 2048});
    }

    /** Four grains in one place, with the speeds x - 2048 and y - 2048 together. */
    static Halofinder oneHalo(int x, int y) {
        Halofinder made = placed(new int[] {x, x, x, x}, new int[] {y, y, y, y});
        made.link(1, 4);
        return made;
    }

    // The k of both directions change places, so that grains 1 and 2 do too.
    private static void displace(Halofinder x, boolean isX, int... by) {
        int all = by[0] + by[1] + by[2] + by[3];
        int columns = by[0] + by[1] - by[2] - by[3];
        int lines = by[0] - by[1] + by[2] - by[3];
        int corners = by[0] - by[1] - by[2] + by[3];
        if (all % 4 != 0 || columns % 4 != 0 || lines % 4 != 0 || corners % 4 != 0) {
            throw new IllegalArgumentException("no ripples lead there");
        }
        waves(x, isX, 2, 0, all / 4 / 2, 8);
        waves(x, isX, 2, 0, 2 * (all / 4 % 2), 11);
        waves(x, isX, 1, 0, columns / 4, 12);
        waves(x, isX, 2, 1, lines / 4 / 4, 4);
        waves(x, isX, 2, -1, lines / 4 / 4, 12);
        for (int left = Math.abs(lines / 4 % 4); left > 0; left--) {
            waves(x, isX, 2, 1, lines < 0 ? -2 : 2, 7);
        }
        waves(x, isX, 1, 1, corners / 4 / 2, 8);
        waves(x, isX, 1, -1, corners / 4 / 2, 0);
        waves(x, isX, 3, 1, corners / 4 % 2, 3);
    }

    private static void waves(Halofinder x, boolean isX, int along, int across, int amplitude, int phase) {
        for (int left = amplitude; left != 0; ) {
            int part = Math.max(-1000, Math.min(1000, left));
            x.ripple(isX ? along : across, isX ? across : along, part, phase);
            left -= part;
        }
    }
}
