/** What 'Terms' and 'What it is' say of all calls: a test for each sentence that names an edge. */
public final class EdgesOfCallsTest {
    private static final Due DUE = new Due("EdgesOfCallsTest");

    /** A call on an object. */
    interface Asked {
        long on(Halofinder x);
    }

    public static void main(String[] args) {
        stateGoesBehindArgument();
        argumentGoesBehindIndex();
        refusedCallsChangeNothing();
        aThirteenthPictureChangesNothing();
        stepsBeyondTheLastAgeChangeNothing();
        askingChangesNothing();
        objectsAreApart();
        fiveHundredAndTwelveCalls();
        theGreatestSpeeds();
        DUE.end();
    }

    private static void answer(Halofinder x, String call, String want, Asked asked) {
        DUE.answers(call, want, () -> asked.on(x));
    }

    private static long nothing(Halofinder x) {
        return 0;
    }

    private static long ripple(Halofinder x, int kx, int ky, int amplitude, int phase) {
        x.ripple(kx, ky, amplitude, phase);
        return nothing(x);
    }

    // "if several exceptions apply, the one that its throws clause names first is thrown": wrong arguments
    // of an age that is wrong too
    private static void stateGoesBehindArgument() {
        Halofinder x = new Halofinder();
        for (int turn = 0; turn < 49; turn++) {
            x.step(20);
        }
        x.step(19);
        String argument = "throws.IllegalArgumentException";
        String state = "throws.IllegalStateException";
        answer(x, "ripple(4, 0, 0, 0)", argument, y -> ripple(y, 4, 0, 0, 0));
        answer(x, "ripple(0, -4, 0, 0)", argument, y -> ripple(y, 0, -4, 0, 0));
        answer(x, "ripple(1, 0, 1001, 0)", argument, y -> ripple(y, 1, 0, 1001, 0));
        answer(x, "ripple(1, 0, 0, -1)", argument, y -> ripple(y, 1, 0, 0, -1));
        answer(x, "ripple(0, 0, 0, 0)", argument, y -> ripple(y, 0, 0, 0, 0));
        answer(x, "ripple(1, 0, 0, 0)", state, y -> ripple(y, 1, 0, 0, 0));
        answer(x, "draw(-1, 0)", argument, y -> y.draw(-1, 0));
        answer(x, "draw(0, 1001)", argument, y -> y.draw(0, 1001));
        answer(x, "draw(0, 0)", state, y -> y.draw(0, 0));
        answer(x, "step(0)", argument, y -> y.step(0));
        answer(x, "step(21)", argument, y -> y.step(21));
        answer(x, "step(1)", state, y -> y.step(1));
        answer(x, "step(20)", state, y -> y.step(20));
    }

    // The same of what is out of range, where there is no such picture, grain, halo or place either.
    private static void argumentGoesBehindIndex() {
        Halofinder x = Scenes.four();
        x.recipes(1000, 1000, 0);
        Scenes.keepPairs(x);
        String argument = "throws.IllegalArgumentException";
        String index = "throws.IndexOutOfBoundsException";
        int[] wrong = {-1, 9};
        for (int what : wrong) {
            answer(x, "grain(1, 0, " + what + ")", index, y -> y.grain(1, 0, what));
            answer(x, "grain(0, 4, " + what + ")", index, y -> y.grain(0, 4, what));
            answer(x, "grain(-1, 4, " + what + ")", index, y -> y.grain(-1, 4, what));
            answer(x, "grain(0, 0, " + what + ")", argument, y -> y.grain(0, 0, what));
            answer(x, "grain(-1, 0, " + what + ")", argument, y -> y.grain(-1, 0, what));
            answer(x, "ofHalo(1, 0, " + what + ")", index, y -> y.ofHalo(1, 0, what));
            answer(x, "ofHalo(0, 2, " + what + ")", index, y -> y.ofHalo(0, 2, what));
            answer(x, "ofHalo(-1, 2, " + what + ")", index, y -> y.ofHalo(-1, 2, what));
            answer(x, "ofHalo(0, 0, " + what + ")", argument, y -> y.ofHalo(0, 0, what));
            answer(x, "ofHalo(-1, 0, " + what + ")", argument, y -> y.ofHalo(-1, 0, what));
            answer(x, "tree(-1, 0, " + what + ")", index, y -> y.tree(-1, 0, what));
            answer(x, "tree(0, 2, " + what + ")", index, y -> y.tree(0, 2, what));
            answer(x, "tree(0, 0, " + what + ")", argument, y -> y.tree(0, 0, what));
            answer(x, "galaxy(-1, 0, " + what + ")", index, y -> y.galaxy(-1, 0, what));
            answer(x, "galaxy(0, 2, " + what + ")", index, y -> y.galaxy(0, 2, what));
            answer(x, "galaxy(0, 0, " + what + ")", argument, y -> y.galaxy(0, 0, what));
            answer(x, "sky(2, " + what + ")", index, y -> y.sky(2, what));
            answer(x, "sky(-1, " + what + ")", index, y -> y.sky(-1, what));
            answer(x, "sky(1, " + what + ")", argument, y -> y.sky(1, what));
        }
    }

    private static Halofinder twoPictures() {
        Halofinder x = Scenes.nine();
        x.pull(9000, 20);
        x.recipes(500, 400, 300);
        x.observe(1000, 1000, 1100);
        x.survey(1, 300);
        x.link(10, 1);
        x.keep();
        x.link(600, 2);
        x.keep();
        return x;
    }

    // "A call that throws an exception changes nothing": all that one object can refuse, one after the other
    private static void refusedCallsChangeNothing() {
        Halofinder x = twoPictures();
        Asked[] wrong = {y -> y.universe(1), y -> y.universe(9), y -> ripple(y, 4, 1, 9, 9),
            y -> ripple(y, 1, 1, 9, 16), y -> ripple(y, 0, 0, 9, 9), y -> y.draw(-1, 9), y -> y.draw(9, 1001),
            y -> y.grain(2, 0, 0), y -> y.grain(-1, 9, 0), y -> y.grain(-1, 0, 4), y -> pull(y, 10001, 9),
            y -> pull(y, 5, 9), y -> y.force(9, true, true), y -> y.step(0), y -> y.step(21), y -> link(y, 2001, 1),
            y -> link(y, 5, 65), y -> y.halos(2), y -> y.halosAnew(2), y -> y.grains(-1, 9),
            y -> y.ofHalo(0, 4, 0), y -> y.ofHalo(0, 0, 6), y -> y.bound(0, 4), y -> y.next(-1, 0),
            y -> y.from(2, 0), y -> y.tree(0, 0, 3), y -> recipes(y, 1001, 5, 5), y -> recipes(y, 5, 5, 5001),
            y -> y.galaxy(-1, 0, 0), y -> y.galaxy(0, 0, 4), y -> observe(y, 4096, 5, 5), y -> observe(y, 5, 5, 0),
            y -> survey(y, 256, 5), y -> survey(y, 5, 4001), y -> y.sky(64, 0), y -> y.sky(0, 5),
            y -> y.pairs(-1, 5)};
        for (int call = 0; call < wrong.length; call++) {
            Asked asked = wrong[call];
            String got = Due.answerOf(() -> asked.on(x));
            DUE.is("call " + call + " is refused", 1, got.startsWith("throws.") ? 1 : 0);
        }
        DUE.same("what is after all", Snapshot.of(twoPictures()), Snapshot.of(x));
    }

    private static long pull(Halofinder x, int g, int softness) {
        x.pull(g, softness);
        return nothing(x);
    }

    private static long link(Halofinder x, int length, int least) {
        x.link(length, least);
        return nothing(x);
    }

    private static long recipes(Halofinder x, int cooling, int forming, int wind) {
        x.recipes(cooling, forming, wind);
        return nothing(x);
    }

    private static long observe(Halofinder x, int eyeX, int eyeY, int depth) {
        x.observe(eyeX, eyeY, depth);
        return nothing(x);
    }

    private static long survey(Halofinder x, int mask, int fibre) {
        x.survey(mask, fibre);
        return nothing(x);
    }

    private static Halofinder twelvePictures() {
        Halofinder x = twoPictures();
        for (int number = 2; number < 12; number++) {
            x.step(2);
            x.link(100 + 90 * number, 1 + number % 3);
            x.keep();
        }
        x.step(3);
        return x;
    }

    /** What twelve pictures answer, of two halos each. */
    private static String album(Halofinder x) {
        StringBuilder text = new StringBuilder();
        for (int each = 0; each < 12; each++) {
            int picture = each;
            text.append("picture ").append(picture).append(": ").append(x.halos(picture)).append(' ')
                .append(x.grain(picture, 3, 0));
            for (int one = 0; one < 2; one++) {
                int halo = one;
                Asked[] asked = {y -> y.grains(picture, halo), y -> y.ofHalo(picture, halo, 5),
                    y -> y.bound(picture, halo), y -> y.next(picture, halo), y -> y.from(picture, halo),
                    y -> y.tree(picture, halo, 2), y -> y.galaxy(picture, halo, 0), y -> y.galaxy(picture, halo, 3)};
                for (Asked call : asked) {
                    text.append(' ').append(Due.answerOf(() -> call.on(x)));
                }
            }
            text.append('\n');
        }
        for (int place = 0; place < 20; place++) {
            int asked = place;
            text.append(Due.answerOf(() -> x.sky(asked, 0))).append(Due.answerOf(() -> x.sky(asked, 4)));
        }
        return text.append(x.kept()).append(' ').append(x.seen()).append(' ').append(x.momentum(true)).toString();
    }

    // "A call that throws an exception changes nothing": none of twelve pictures
    private static void aThirteenthPictureChangesNothing() {
        Halofinder x = twelvePictures();
        for (int turn = 0; turn < 3; turn++) {
            answer(x, "a thirteenth keep()", "throws.IllegalStateException", y -> y.keep());
        }
        DUE.same("all pictures", album(twelvePictures()), album(x));
        DUE.is("the age", 25, x.step(1));
        x.universe(3);
        DUE.is("anew", 0, x.keep());
    }

    // The same of steps of which some could pass.
    private static void stepsBeyondTheLastAgeChangeNothing() {
        Halofinder x = twoPictures();
        Halofinder y = twoPictures();
        for (int turn = 0; turn < 49; turn++) {
            x.step(20);
            y.step(20);
        }
        x.step(18);
        y.step(18);
        for (int many = 2; many <= 20; many++) {
            int asked = many;
            answer(x, "step(" + many + ") at 999", "throws.IllegalStateException", z -> z.step(asked));
        }
        for (int grain = 0; grain < 9; grain++) {
            for (int what = 0; what < 4; what++) {
                DUE.is("grain " + grain, y.grain(-1, grain, what), x.grain(-1, grain, what));
            }
        }
        DUE.is("the age", 1000, x.step(1));
    }

    // "all else is asked, and changes nothing"
    private static void askingChangesNothing() {
        Halofinder x = twelvePictures();
        askAll(x);
        DUE.same("all pictures", album(twelvePictures()), album(x));
        Halofinder y = twoPictures();
        askAll(y);
        DUE.same("two pictures", Snapshot.of(twoPictures()), Snapshot.of(y));
    }

    private static void askAll(Halofinder x) {
        Asked[] asked = {y -> y.grain(-1, 0, 0), y -> y.grain(0, 8, 3), y -> y.force(0, true, true),
            y -> y.force(8, false, false), y -> y.momentum(true), y -> y.momentum(false), y -> y.halos(-1),
            y -> y.halos(1), y -> y.halosAnew(-1), y -> y.halosAnew(1), y -> y.grains(-1, 0), y -> y.grains(1, 0),
            y -> y.ofHalo(-1, 0, 5), y -> y.ofHalo(0, 1, 1), y -> y.bound(-1, 0), y -> y.bound(0, 0),
            y -> y.next(0, 0), y -> y.from(1, 0), y -> y.tree(1, 0, 0), y -> y.tree(1, 0, 1), y -> y.tree(1, 0, 2),
            y -> y.galaxy(0, 0, 0), y -> y.galaxy(1, 0, 3), y -> y.kept(), y -> y.seen(), y -> y.sky(0, 2),
            y -> y.sky(0, 4), y -> y.pairs(0, 999), y -> y.voidCells()};
        for (Asked call : asked) {
            String first = Due.answerOf(() -> call.on(x));
            DUE.same("asked twice", first, Due.answerOf(() -> call.on(x)));
        }
    }

    // "A new object": what another one was told does not count for it
    private static void objectsAreApart() {
        Halofinder x = twoPictures();
        Halofinder y = new Halofinder();
        y.universe(8);
        y.pull(10, 1000);
        y.link(2000, 64);
        y.recipes(1, 1, 1);
        y.observe(1, 1, 1);
        y.survey(255, 4000);
        y.draw(77, 1000);
        y.keep();
        y.step(20);
        y.keep();
        Halofinder z = new Halofinder();
        DUE.is("a new one has 16 grains", 3584, z.grain(-1, 15, 0));
        answer(z, "and no picture", "throws.IndexOutOfBoundsException", w -> w.halos(0));
        DUE.is("and is young", 2, z.step(1));
        DUE.same("the first one", Snapshot.of(twoPictures()), Snapshot.of(x));
    }

    // "An object is used for at most 512 calls after it has been made": the last of them, too
    private static void fiveHundredAndTwelveCalls() {
        Halofinder x = new Halofinder();
        x.universe(8);
        x.pull(10000, 10);
        x.link(512, 1);
        for (int call = 4; call <= 510; call++) {
            x.force(63, true, true);
        }
        DUE.is("the 511th", 0, x.keep());
        DUE.is("the 512th", -1, x.grains(0, 0));
    }

    // The same of calls that all hasten: 440 ripples of 3000 are a speed of 1320000, which goes round the room
    // in a step.
    private static void theGreatestSpeeds() {
        Halofinder x = new Halofinder();
        Reference y = new Reference();
        x.universe(2);
        y.universe(2);
        for (int call = 0; call < 440; call++) {
            x.ripple(3, -3, 1000, 0);
            y.ripple(3, -3, 1000, 0);
        }
        DUE.is("the speed", 1320000, x.grain(-1, 0, 2));
        x.pull(10000, 10);
        y.pull(10000, 10);
        x.recipes(1000, 1000, 5000);
        y.recipes(1000, 1000, 5000);
        x.link(2000, 1);
        y.link(2000, 1);
        x.observe(4095, 0, 4000);
        y.observe(4095, 0, 4000);
        x.step(20);
        y.step(20);
        DUE.is("the picture", y.keep(), x.keep());
        for (int what = 0; what < 4; what++) {
            DUE.is("what " + what + " of grain 0", y.grain(0, 0, what), x.grain(0, 0, what));
            DUE.is("what " + what + " of grain 3", y.grain(0, 3, what), x.grain(0, 3, what));
        }
        for (int what = 0; what < 6; what++) {
            DUE.is("what " + what + " of the halo", y.ofHalo(0, 0, what), x.ofHalo(0, 0, what));
        }
        for (int what = 0; what < 5; what++) {
            DUE.is("what " + what + " of the sky", y.sky(0, what), x.sky(0, what));
        }
        DUE.is("bound grains", y.bound(0, 0), x.bound(0, 0));
        DUE.is("momentum", y.momentum(true), x.momentum(true));
    }
}
