/** Compares answers with what is due, prints those that differ, and counts them. */
final class Due {
    /** A call whose answer, or exception, is looked at. */
    interface Call {
        long answer();
    }

    /** A call that answers nothing. */
    interface Order {
        void run();
    }

    private final String test;
    private int looked = 0;
    private int wrong = 0;

    Due(String test) {
        this.test = test;
    }

    void is(String call, long want, long got) {
        same(call, Long.toString(want), Long.toString(got));
    }

    void same(String call, String want, String got) {
        looked++;
        if (!want.equals(got)) {
            wrong++;
            if (wrong <= 40) {
                System.out.println(test + ": " + call + " answered " + got + ", due is " + want);
            }
        }
    }

    void answers(String call, String want, Call asked) {
        same(call, want, answerOf(asked));
    }

    void throwsIt(String call, Class<? extends RuntimeException> want, Order order) {
        same(call, "throws." + want.getSimpleName(), answerOf(() -> {
            order.run();
            return 0;
        }));
    }

    /** An argument is out of range. */
    void refused(String call, Order order) {
        throwsIt(call, IllegalArgumentException.class, order);
    }

    /** There is no such picture, grain, halo or place. */
    void missing(String call, Order order) {
        throwsIt(call, IndexOutOfBoundsException.class, order);
    }

    /** The state does not let it. */
    void tooLate(String call, Order order) {
        throwsIt(call, IllegalStateException.class, order);
    }

    static String answerOf(Call asked) {
        try {
            return Long.toString(asked.answer());
        } catch (IllegalStateException | IllegalArgumentException e) {
            return "throws." + e.getClass().getSimpleName();
        } catch (IndexOutOfBoundsException e) {
            return "throws." + e.getClass().getSimpleName();
        }
    }

    void end() {
        System.out.println(test + ": " + looked + " answers, " + wrong + " not as due");
        if (wrong != 0 || looked == 0) {
            System.exit(1);
        }
    }
}
