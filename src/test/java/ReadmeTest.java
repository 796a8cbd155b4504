/** The example that README.md gives, with the answers that it tells. */
public final class ReadmeTest {
    private static final Due DUE = new Due("ReadmeTest");

    public static void main(String[] args) {
        Halofinder x = new Halofinder();
        grow(x);
        askOfHalos(x);
        askOfGalaxies(x);
        DUE.end();
    }

    private static void grow(Halofinder x) {
        DUE.is("universe(8)", 64, x.universe(8));
        DUE.is("draw(7, 400)", 1662195227, x.draw(7, 400));
        x.pull(9000, 40);
        x.link(300, 3);
        DUE.is("keep()", 0, x.keep());
        DUE.is("step(10)", 11, x.step(10));
        DUE.is("keep() again", 1, x.keep());
    }

    private static void askOfHalos(Halofinder x) {
        DUE.is("halos(1)", 6, x.halos(1));
        DUE.is("grains(1, 0)", 0x800081c1c1c08L, x.grains(1, 0));
        DUE.is("ofHalo(1, 0, 0)", 12, x.ofHalo(1, 0, 0));
        DUE.is("halos(NONE)", 6, x.halos(Halofinder.NONE));
        DUE.is("next(0, 4)", 101, x.next(0, 4));
        DUE.is("from(1, 0)", 0, x.from(1, 0));
        DUE.is("tree(1, 0, 2)", 2, x.tree(1, 0, 2));
    }

    private static void askOfGalaxies(Halofinder x) {
        x.recipes(400, 300, 700);
        DUE.is("galaxy(1, 0, 2)", 261, x.galaxy(1, 0, 2));
        x.observe(2048, 2048, 1500);
        x.survey(1, 100);
        DUE.is("seen()", 5, x.seen());
        DUE.is("sky(0, 0)", 100, x.sky(0, 0));
        DUE.is("sky(0, 4)", 1, x.sky(0, 4));
    }
}
