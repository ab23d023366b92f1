/** Compares answers with those that are due; {@link #end} tells the outcome by the exit code. */
final class Due {
    interface Answer {
        long get();
    }

    interface Act {
        void run();
    }

    private int asked = 0;
    private int wrong = 0;

    void is(String call, long want, Answer answer) {
        asked++;
        try {
            long got = answer.get();
            if (got != want) {
                tell(call + " answered " + got + ", due is " + want);
            }
        } catch (RuntimeException e) {
            tell(call + " threw " + e + ", due is " + want);
        }
    }

    void yes(String call, boolean got) {
        is(call, 1, () -> got ? 1 : 0);
    }

    void no(String call, boolean got) {
        is(call, 0, () -> got ? 1 : 0);
    }

    void logIs(LogBook book, int first, int forced, int end) {
        is("FIRST", first, () -> book.log(0));
        is("FORCED", forced, () -> book.log(1));
        is("END", end, () -> book.log(2));
    }

    /** The very class is asked for: the machine's own exceptions are subclasses of these. */
    void fails(String call, Class<? extends RuntimeException> want, Act act) {
        asked++;
        try {
            act.run();
            tell(call + " threw nothing, due is " + want.getSimpleName());
        } catch (RuntimeException e) {
            if (e.getClass() != want) {
                tell(call + " threw " + e + ", due is " + want.getSimpleName());
            }
        }
    }

    private void tell(String text) {
        wrong++;
        System.out.println(text);
    }

    void end() {
        System.out.println(asked + " answers looked at, " + wrong + " not as due");
        if (wrong != 0 || asked == 0) {
            System.exit(1);
        }
    }
}
