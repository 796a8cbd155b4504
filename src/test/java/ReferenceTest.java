/** Long runs of mixed calls, each answer compared with that of the Reference. */
public final class ReferenceTest {
    private static final int RUNS = 400;
    private static final int CALLS = 500;

    private static long seed;

    private final Due due;
    private final int run;
    private final StringBuilder told = new StringBuilder();
    private Halofinder x;
    private Reference y;

    private ReferenceTest(Due due, int run) {
        this.due = due;
        this.run = run;
        x = new Halofinder();
        y = new Reference();
    }

    public static void main(String[] args) {
        Due due = new Due("ReferenceTest");
        for (int run = 0; run < RUNS; run++) {
            seed = 77 + 1000003L * run;
            new ReferenceTest(due, run).go();
        }
        due.end();
    }

    private static int any(int least, int most) {
        seed = seed * 6364136223846793005L + 1442695040888963407L;
        return (int) (least + Long.remainderUnsigned(seed >>> 20, (long) most - least + 1));
    }

    /** A number of a range, now and then an edge of it or one just outside. */
    private static int some(int least, int most) {
        switch (any(0, 40)) {
            case 0:
                return least;
            case 1:
                return most;
            case 2:
                return any(0, 3) == 0 ? least - 1 : least;
            case 3:
                return any(0, 3) == 0 ? most + 1 : most;
            default:
                return any(least, most);
        }
    }

    private void go() {
        int first = run % 2 == 0 ? 0 : pass();
        for (int call = first; call < CALLS; call++) {
            int kind = call < 12 ? any(0, 30) : any(0, 99);
            if (kind < 31) {
                tell(kind);
            } else if (kind < 58) {
                askGrains(kind);
            } else {
                askPictures(kind);
            }
        }
    }

    /** Pictures of grains that stream through one another, so that halos split and join. */
    private int pass() {
        int side = any(3, 8);
        both("universe(" + side + ")", () -> x.universe(side), () -> y.universe(side));
        for (int wave = any(1, 2); wave > 0; wave--) {
            tell(any(2, 5));
        }
        int pictures = any(2, 12);
        for (int picture = 0; picture < pictures; picture++) {
            int length = any(400, 2000) * 2 / side;
            int least = any(1, 3);
            both("link(" + length + ", " + least + ")", () -> {
                x.link(length, least);
                return 0;
            }, () -> y.link(length, least));
            both("keep()", () -> x.keep(), () -> y.keep());
            int many = any(1, 20);
            both("step(" + many + ")", () -> x.step(many), () -> y.step(many));
        }
        return 3 + 3 * pictures;
    }

    private void both(String call, Due.Call one, Due.Call other) {
        told.append(call).append("; ");
        String want = Due.answerOf(other);
        String got = Due.answerOf(one);
        due.same("run " + run + ": " + (want.equals(got) ? call : told), want, got);
    }

    private void tell(int kind) {
        if (kind < 2) {
            int side = kind == 0 ? some(2, 8) : some(2, 4);
            if (any(0, 2) == 0 || told.length() < 60) {
                both("universe(" + side + ")", () -> x.universe(side), () -> y.universe(side));
            }
        } else if (kind < 6) {
            int kx = some(-3, 3);
            int ky = some(-3, 3);
            int amplitude = some(-1000, 1000);
            int phase = some(0, 15);
            both("ripple(" + kx + ", " + ky + ", " + amplitude + ", " + phase + ")", () -> {
                x.ripple(kx, ky, amplitude, phase);
                return 0;
            }, () -> y.ripple(kx, ky, amplitude, phase));
        } else if (kind < 8) {
            int start = any(0, 9) == 0 ? any(-2, 2) : any(0, Integer.MAX_VALUE);
            int power = some(0, 1000);
            both("draw(" + start + ", " + power + ")", () -> x.draw(start, power), () -> y.draw(start, power));
        } else if (kind < 10) {
            int g = some(0, 10000);
            int softness = any(0, 1) == 0 ? some(10, 100) : some(10, 1000);
            both("pull(" + g + ", " + softness + ")", () -> {
                x.pull(g, softness);
                return 0;
            }, () -> y.pull(g, softness));
        } else if (kind < 17) {
            int many = any(0, 3) == 0 ? some(1, 20) : any(1, 4);
            both("step(" + many + ")", () -> x.step(many), () -> y.step(many));
        } else if (kind < 20) {
            int length = any(0, 1) == 0 ? some(1, 700) : some(1, 2000);
            int least = any(0, 9) == 0 ? some(1, 64) : some(1, 4);
            both("link(" + length + ", " + least + ")", () -> {
                x.link(length, least);
                return 0;
            }, () -> y.link(length, least));
        } else if (kind < 27) {
            both("keep()", () -> x.keep(), () -> y.keep());
        } else {
            tellRecipesAndSky(kind);
        }
    }

    private void tellRecipesAndSky(int kind) {
        if (kind < 28) {
            int cooling = some(0, 1000);
            int forming = some(0, 1000);
            int wind = any(0, 1) == 0 ? some(0, 1000) : some(0, 5000);
            both("recipes(" + cooling + ", " + forming + ", " + wind + ")", () -> {
                x.recipes(cooling, forming, wind);
                return 0;
            }, () -> y.recipes(cooling, forming, wind));
        } else if (kind < 29) {
            int mask = any(0, 2) == 0 ? some(0, 255) : 1 << any(0, 8) >> 1;
            int fibre = any(0, 1) == 0 ? some(0, 400) : some(0, 4000);
            both("survey(" + mask + ", " + fibre + ")", () -> {
                x.survey(mask, fibre);
                return 0;
            }, () -> y.survey(mask, fibre));
        } else {
            int eyeX = some(0, 4095);
            int eyeY = some(0, 4095);
            int depth = any(0, 2) == 0 ? some(1, 4000) : some(1, 900);
            both("observe(" + eyeX + ", " + eyeY + ", " + depth + ")", () -> {
                x.observe(eyeX, eyeY, depth);
                return 0;
            }, () -> y.observe(eyeX, eyeY, depth));
        }
    }

    private void askGrains(int kind) {
        int picture = any(0, 2) == 0 ? some(0, 11) : any(-1, 2);
        int grain = any(0, 2) == 0 ? some(0, 63) : any(0, 15);
        if (kind < 40) {
            int what = some(0, 3);
            both("grain(" + picture + ", " + grain + ", " + what + ")",
                () -> x.grain(picture, grain, what), () -> y.grain(picture, grain, what));
        } else if (kind < 48) {
            boolean isX = any(0, 1) == 0;
            boolean byCells = any(0, 2) != 0;
            both("force(" + grain + ", " + isX + ", " + byCells + ")",
                () -> x.force(grain, isX, byCells), () -> y.force(grain, isX, byCells));
        } else if (kind < 50) {
            boolean isX = any(0, 1) == 0;
            both("momentum(" + isX + ")", () -> x.momentum(isX), () -> y.momentum(isX));
        } else if (kind < 53) {
            both("halos(" + picture + ")", () -> x.halos(picture), () -> y.halos(picture));
        } else if (kind < 54) {
            both("halosAnew(" + picture + ")", () -> x.halosAnew(picture), () -> y.halosAnew(picture));
        } else if (kind < 56) {
            int from = some(0, 2900);
            int to = some(0, 2900);
            both("pairs(" + from + ", " + to + ")", () -> x.pairs(from, to), () -> y.pairs(from, to));
        } else {
            both("voidCells()", () -> x.voidCells(), () -> y.voidCells());
        }
    }

    private void askPictures(int kind) {
        int picture = any(0, 2) == 0 ? some(0, 11) : any(-1, 3);
        int halo = any(0, 3) == 0 ? some(0, 63) : any(0, 5);
        int what = some(0, 5);
        String of = "(" + picture + ", " + halo + ")";
        String ofWhat = "(" + picture + ", " + halo + ", " + what + ")";
        if (kind < 62) {
            both("grains" + of, () -> x.grains(picture, halo), () -> y.grains(picture, halo));
        } else if (kind < 67) {
            both("ofHalo" + ofWhat, () -> x.ofHalo(picture, halo, what), () -> y.ofHalo(picture, halo, what));
        } else if (kind < 71) {
            both("bound" + of, () -> x.bound(picture, halo), () -> y.bound(picture, halo));
        } else if (kind < 75) {
            both("next" + of, () -> x.next(picture, halo), () -> y.next(picture, halo));
        } else if (kind < 79) {
            both("from" + of, () -> x.from(picture, halo), () -> y.from(picture, halo));
        } else if (kind < 84) {
            both("tree" + ofWhat, () -> x.tree(picture, halo, what), () -> y.tree(picture, halo, what));
        } else if (kind < 89) {
            both("galaxy" + ofWhat, () -> x.galaxy(picture, halo, what), () -> y.galaxy(picture, halo, what));
        } else if (kind < 90) {
            both("kept()", () -> x.kept(), () -> y.kept());
        } else if (kind < 92) {
            both("seen()", () -> x.seen(), () -> y.seen());
        } else {
            int place = any(0, 2) == 0 ? some(0, 63) : any(0, 5);
            int asked = some(0, 4);
            both("sky(" + place + ", " + asked + ")", () -> x.sky(place, asked), () -> y.sky(place, asked));
        }
    }
}
