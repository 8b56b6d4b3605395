/** Counts and prints the calls of a test whose answer is not the one that is due. */
final class Due {
    interface Call {
        long answer();
    }

    interface Doing {
        void run();
    }

    private int calls = 0;
    private int wrong = 0;

    void same(String call, long due, Call made) {
        calls++;
        try {
            long got = made.answer();
            if (got != due) {
                tell(call, String.valueOf(got), String.valueOf(due));
            }
        } catch (RuntimeException e) {
            tell(call, e.getClass().getSimpleName(), String.valueOf(due));
        }
    }

    void is(String call, long due, long got) {
        same(call, due, () -> got);
    }

    void quiet(String call, Doing made) {
        same(call + " throws nothing", 0, () -> {
            made.run();
            return 0;
        });
    }

    void yes(String call, boolean got) {
        calls++;
        if (!got) {
            tell(call, "false", "true");
        }
    }

    void no(String call, boolean got) {
        calls++;
        if (got) {
            tell(call, "true", "false");
        }
    }

    void noIndex(String call, Doing made) {
        throwsA(call, IndexOutOfBoundsException.class, made);
    }

    void noArgument(String call, Doing made) {
        throwsA(call, IllegalArgumentException.class, made);
    }

    private void throwsA(String call, Class<? extends RuntimeException> due, Doing made) {
        calls++;
        String got = "nothing thrown";
        try {
            made.run();
        } catch (RuntimeException e) {
            got = e.getClass().getSimpleName();
        }
        if (!got.equals(due.getSimpleName())) {
            tell(call, got, due.getSimpleName());
        }
    }

    private void tell(String call, String got, String due) {
        wrong++;
        System.out.println(call + " answered " + got + ", due is " + due);
    }

    /** Ends the test: with exit code 1 if an answer was wrong. */
    void end() {
        System.out.println(calls + " calls, " + wrong + " wrong");
        if (wrong != 0) {
            System.exit(1);
        }
    }
}
