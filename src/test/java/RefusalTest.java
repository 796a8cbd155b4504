/** Each exception of each throws clause, which goes first, and that a call that throws changes nothing. */
public final class RefusalTest {
    private static final Due DUE = new Due("RefusalTest");

    /** A call on an object that must refuse it. */
    interface Wrong {
        void call(Halofinder x);
    }

    /** A way to make an object. */
    interface Maker {
        Halofinder make();
    }

    public static void main(String[] args) {
        universes();
        ripples();
        draws();
        ages();
        tellings();
        grainsAndForces();
        halos();
        pictures();
        galaxiesAndSkies();
        fullAlbums();
        oldUniverses();
        DUE.end();
    }

    private static Halofinder young() {
        Halofinder x = Scenes.nine();
        x.pull(9000, 20);
        x.recipes(500, 400, 300);
        x.observe(1000, 1000, 1100);
        x.survey(1, 300);
        x.link(10, 1);
        x.keep();
        x.link(10, 2);
        x.keep();
        return x;
    }

    private static Halofinder older() {
        Halofinder x = young();
        x.step(7);
        x.link(600, 2);
        x.keep();
        x.step(1);
        return x;
    }

    private static Halofinder full() {
        Halofinder x = older();
        for (int number = 3; number < 12; number++) {
            x.keep();
        }
        return x;
    }

    private static Halofinder old() {
        Halofinder x = young();
        for (int turn = 0; turn < 49; turn++) {
            x.step(20);
        }
        return x;
    }

    private static void refusedBy(Maker maker, String call, Class<? extends RuntimeException> want, Wrong wrong) {
        Halofinder x = maker.make();
        DUE.throwsIt(call, want, () -> wrong.call(x));
        DUE.same("what is after " + call, Snapshot.of(maker.make()), Snapshot.of(x));
    }

    private static void refused(String call, Class<? extends RuntimeException> want, Wrong wrong) {
        refusedBy(RefusalTest::young, call, want, wrong);
        refusedBy(RefusalTest::older, call + " of an older one", want, wrong);
    }

    private static void argument(String call, Wrong wrong) {
        refused(call, IllegalArgumentException.class, wrong);
    }

    private static void index(String call, Wrong wrong) {
        refused(call, IndexOutOfBoundsException.class, wrong);
    }

    private static void universes() {
        argument("universe(1)", x -> x.universe(1));
        argument("universe(9)", x -> x.universe(9));
        argument("universe(-3)", x -> x.universe(-3));
        argument("universe(2147483647)", x -> x.universe(Integer.MAX_VALUE));
    }

    // A wrong argument goes first, so that it is told of older ones too.
    private static void ripples() {
        argument("ripple(-4, 0, 1, 0)", x -> x.ripple(-4, 0, 1, 0));
        argument("ripple(4, 0, 1, 0)", x -> x.ripple(4, 0, 1, 0));
        argument("ripple(0, -4, 1, 0)", x -> x.ripple(0, -4, 1, 0));
        argument("ripple(0, 4, 1, 0)", x -> x.ripple(0, 4, 1, 0));
        argument("ripple(1, 0, -1001, 0)", x -> x.ripple(1, 0, -1001, 0));
        argument("ripple(1, 0, 1001, 0)", x -> x.ripple(1, 0, 1001, 0));
        argument("ripple(1, 0, 1, -1)", x -> x.ripple(1, 0, 1, -1));
        argument("ripple(1, 0, 1, 16)", x -> x.ripple(1, 0, 1, 16));
        argument("ripple(0, 0, 1, 0)", x -> x.ripple(0, 0, 1, 0));
    }

    private static void draws() {
        argument("draw(-1, 5)", x -> x.draw(-1, 5));
        argument("draw(5, -1)", x -> x.draw(5, -1));
        argument("draw(5, 1001)", x -> x.draw(5, 1001));
        argument("draw(-2147483648, 5)", x -> x.draw(Integer.MIN_VALUE, 5));
    }

    private static void ages() {
        refusedBy(RefusalTest::older, "ripple(1, 0, 1, 0)", IllegalStateException.class, x -> x.ripple(1, 0, 1, 0));
        refusedBy(RefusalTest::older, "draw(5, 5)", IllegalStateException.class, x -> x.draw(5, 5));
    }

    private static void tellings() {
        argument("pull(-1, 50)", x -> x.pull(-1, 50));
        argument("pull(10001, 50)", x -> x.pull(10001, 50));
        argument("pull(5, 9)", x -> x.pull(5, 9));
        argument("pull(5, 1001)", x -> x.pull(5, 1001));
        argument("step(0)", x -> x.step(0));
        argument("step(21)", x -> x.step(21));
        argument("step(-2147483648)", x -> x.step(Integer.MIN_VALUE));
        argument("step(2147483647)", x -> x.step(Integer.MAX_VALUE));
        argument("link(0, 3)", x -> x.link(0, 3));
        argument("link(2001, 3)", x -> x.link(2001, 3));
        argument("link(400, 0)", x -> x.link(400, 0));
        argument("link(400, 65)", x -> x.link(400, 65));
        argument("recipes(-1, 0, 0)", x -> x.recipes(-1, 0, 0));
        argument("recipes(1001, 0, 0)", x -> x.recipes(1001, 0, 0));
        argument("recipes(0, -1, 0)", x -> x.recipes(0, -1, 0));
        argument("recipes(0, 1001, 0)", x -> x.recipes(0, 1001, 0));
        argument("recipes(0, 0, -1)", x -> x.recipes(0, 0, -1));
        argument("recipes(0, 0, 5001)", x -> x.recipes(0, 0, 5001));
    }

    private static void grainsAndForces() {
        index("grain(3, 0, 0)", x -> x.grain(3, 0, 0));
        index("grain(-2, 0, 0)", x -> x.grain(-2, 0, 0));
        index("grain(-1, 9, 0)", x -> x.grain(-1, 9, 0));
        index("grain(1, 9, 0)", x -> x.grain(1, 9, 0));
        index("grain(1, -1, 0)", x -> x.grain(1, -1, 0));
        index("grain(1, 9, 4)", x -> x.grain(1, 9, 4));
        argument("grain(1, 8, 4)", x -> x.grain(1, 8, 4));
        argument("grain(-1, 8, -1)", x -> x.grain(-1, 8, -1));
        index("force(9, true, true)", x -> x.force(9, true, true));
        index("force(9, false, false)", x -> x.force(9, false, false));
        index("force(-1, true, false)", x -> x.force(-1, true, false));
        argument("pairs(-1, 9)", x -> x.pairs(-1, 9));
    }

    private static void halos() {
        index("halos(3)", x -> x.halos(3));
        index("halos(-2)", x -> x.halos(-2));
        index("halosAnew(3)", x -> x.halosAnew(3));
        index("halosAnew(-2)", x -> x.halosAnew(-2));
        index("grains(0, 4)", x -> x.grains(0, 4));
        index("grains(3, 0)", x -> x.grains(3, 0));
        index("grains(-1, -1)", x -> x.grains(-1, -1));
        index("grains(-1, 9)", x -> x.grains(-1, 9));
        index("ofHalo(0, 4, 0)", x -> x.ofHalo(0, 4, 0));
        index("ofHalo(3, 0, 9)", x -> x.ofHalo(3, 0, 9));
        index("ofHalo(-2, 0, 0)", x -> x.ofHalo(-2, 0, 0));
        argument("ofHalo(0, 3, 6)", x -> x.ofHalo(0, 3, 6));
        argument("ofHalo(0, 3, -1)", x -> x.ofHalo(0, 3, -1));
        index("bound(0, 4)", x -> x.bound(0, 4));
        index("bound(3, 0)", x -> x.bound(3, 0));
        index("bound(-1, 9)", x -> x.bound(-1, 9));
    }

    private static void pictures() {
        index("next(-1, 0)", x -> x.next(-1, 0));
        index("next(3, 0)", x -> x.next(3, 0));
        index("next(0, 4)", x -> x.next(0, 4));
        index("from(-1, 0)", x -> x.from(-1, 0));
        index("from(3, 0)", x -> x.from(3, 0));
        index("from(1, 3)", x -> x.from(1, 3));
        index("tree(-1, 0, 0)", x -> x.tree(-1, 0, 0));
        index("tree(3, 0, 0)", x -> x.tree(3, 0, 0));
        index("tree(1, 3, 3)", x -> x.tree(1, 3, 3));
        argument("tree(1, 2, 3)", x -> x.tree(1, 2, 3));
        argument("tree(1, 2, -1)", x -> x.tree(1, 2, -1));
    }

    private static void galaxiesAndSkies() {
        index("galaxy(-1, 0, 0)", x -> x.galaxy(-1, 0, 0));
        index("galaxy(3, 0, 0)", x -> x.galaxy(3, 0, 0));
        index("galaxy(1, 3, 4)", x -> x.galaxy(1, 3, 4));
        argument("galaxy(1, 2, 4)", x -> x.galaxy(1, 2, 4));
        argument("galaxy(1, 2, -1)", x -> x.galaxy(1, 2, -1));
        argument("observe(-1, 5, 5)", x -> x.observe(-1, 5, 5));
        argument("observe(4096, 5, 5)", x -> x.observe(4096, 5, 5));
        argument("observe(5, -1, 5)", x -> x.observe(5, -1, 5));
        argument("observe(5, 4096, 5)", x -> x.observe(5, 4096, 5));
        argument("observe(5, 5, 0)", x -> x.observe(5, 5, 0));
        argument("observe(5, 5, 4001)", x -> x.observe(5, 5, 4001));
        argument("survey(-1, 5)", x -> x.survey(-1, 5));
        argument("survey(256, 5)", x -> x.survey(256, 5));
        argument("survey(5, -1)", x -> x.survey(5, -1));
        argument("survey(5, 4001)", x -> x.survey(5, 4001));
        index("sky(-1, 0)", x -> x.sky(-1, 0));
        index("sky(20, 0)", x -> x.sky(20, 0));
        index("sky(20, 5)", x -> x.sky(20, 5));
        argument("sky(0, 5)", x -> x.sky(0, 5));
        argument("sky(0, -1)", x -> x.sky(0, -1));
    }

    private static void fullAlbums() {
        refusedBy(RefusalTest::full, "a thirteenth keep()", IllegalStateException.class, x -> x.keep());
    }

    private static void oldUniverses() {
        refusedBy(RefusalTest::old, "step(20)", IllegalStateException.class, x -> x.step(20));
        refusedBy(RefusalTest::old, "step(0)", IllegalArgumentException.class, x -> x.step(0));
        refusedBy(RefusalTest::old, "draw(5, 5)", IllegalStateException.class, x -> x.draw(5, 5));
    }
}
