/** Counts what is as due and what is not; each test program ends with done(). */
final class Check {
    interface Call {
        long run();
    }

    private static int passed;
    private static int failed;

    private Check() {
    }

    static void equal(String what, long got, long want) {
        if (got == want) {
            passed++;
        } else {
            failed++;
            System.out.println(what + " answered " + got + ", due is " + want);
        }
    }

    static void isTrue(String what, boolean got) {
        equal(what, got ? 1 : 0, 1);
    }

    static void isFalse(String what, boolean got) {
        equal(what, got ? 1 : 0, 0);
    }

    /** The call throws just this class of exception, not one below it. */
    static void fails(String what, Class<? extends RuntimeException> due, Call call) {
        String got = "nothing";
        try {
            call.run();
        } catch (RuntimeException e) {
            got = e.getClass().getName();
        }
        if (got.equals(due.getName())) {
            passed++;
        } else {
            failed++;
            System.out.println(what + " threw " + got + ", due is " + due.getName());
        }
    }

    static void done() {
        System.out.println(passed + " checks as due, " + failed + " not");
        if (failed > 0) {
            System.exit(1);
        }
    }
}
