/** All that a small universe answers, as one text, asked with far fewer than 512 calls. */
final class Snapshot {
    private static final int MOST_HALOS = 4;
    private static final int MOST_PICTURES = 3;
    private static final int MOST_SEEN = 8;

    private final Halofinder x;
    private final StringBuilder text = new StringBuilder();

    private Snapshot(Halofinder x) {
        this.x = x;
    }

    /** Ends with calls that change the object: it is of no more use then. */
    static String of(Halofinder x) {
        Snapshot made = new Snapshot(x);
        made.tellGrains();
        made.tellHalos(-1);
        made.ask("pairs", () -> x.pairs(0, 1000));
        made.ask("voidCells", () -> x.voidCells());
        for (int picture = 0; picture < MOST_PICTURES; picture++) {
            made.tellPicture(picture);
        }
        made.tellSky();
        made.ask("draw", () -> x.draw(5, 300));
        made.ask("keep", () -> x.keep());
        made.ask("step", () -> x.step(1));
        made.ask("grain", () -> x.grain(-1, 3, 0));
        return made.text.toString();
    }

    private String ask(String call, Due.Call asked) {
        String answer = Due.answerOf(asked);
        text.append(call).append(' ').append(answer).append('\n');
        return answer;
    }

    private static boolean isNone(String answer) {
        return answer.startsWith("throws.");
    }

    private void tellGrains() {
        for (int each = 0; each < 9; each++) {
            int grain = each;
            for (int what = 0; what < 4; what++) {
                int asked = what;
                ask("grain " + grain + " " + asked, () -> x.grain(-1, grain, asked));
                ask("force " + grain + " " + asked, () -> x.force(grain, asked < 2, asked % 2 == 0));
            }
        }
        ask("momentum x", () -> x.momentum(true));
        ask("momentum y", () -> x.momentum(false));
    }

    private void tellHalos(int picture) {
        ask("halos " + picture, () -> x.halos(picture));
        ask("halosAnew " + picture, () -> x.halosAnew(picture));
        for (int each = 0; each < MOST_HALOS; each++) {
            int halo = each;
            if (isNone(ask("grains " + halo, () -> x.grains(picture, halo)))) {
                return;
            }
            ask("bound", () -> x.bound(picture, halo));
            ask("x", () -> x.ofHalo(picture, halo, 1));
        }
    }

    private void tellPicture(int picture) {
        if (isNone(ask("picture " + picture, () -> x.grain(picture, 1, 1)))) {
            return;
        }
        tellHalos(picture);
        for (int each = 0; each < MOST_HALOS; each++) {
            int halo = each;
            if (isNone(ask("next " + halo, () -> x.next(picture, halo)))) {
                return;
            }
            ask("from", () -> x.from(picture, halo));
            for (int what = 0; what < 4; what++) {
                int asked = what;
                ask("tree " + asked, () -> x.tree(picture, halo, asked));
                ask("galaxy " + asked, () -> x.galaxy(picture, halo, asked));
            }
        }
    }

    private void tellSky() {
        ask("kept", () -> x.kept());
        ask("seen", () -> x.seen());
        for (int each = 0; each < MOST_SEEN; each++) {
            int place = each;
            for (int what = 0; what < 5; what++) {
                int asked = what;
                if (isNone(ask("sky " + place, () -> x.sky(place, asked)))) {
                    return;
                }
            }
        }
    }
}
