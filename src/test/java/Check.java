/** Counts what is as due and what is not; each test program ends with done(). */
final class Check {
    interface Call {
        long run();
    }

    private static int passed;
    private static int failed;
    private static String test = "";

    private Check() {
    }

    /** One test with a name of its own: what it throws is a failure of this test, and the next one goes on. */
    static void test(String name, Runnable body) {
        test = name + ": ";
        try {
            body.run();
        } catch (RuntimeException e) {
            fail("threw " + e);
        }
        test = "";
    }

    private static void fail(String text) {
        failed++;
        System.out.println(test + text);
    }

    static void equal(String what, long got, long want) {
        if (got == want) {
            passed++;
        } else {
            fail(what + " answered " + got + ", due is " + want);
        }
    }

    static void equal(String what, String got, String want) {
        if (got.equals(want)) {
            passed++;
        } else {
            fail(what + " is '" + got + "', due is '" + want + "'");
        }
    }

    static void isTrue(String what, boolean got) {
        equal(what, got ? 1 : 0, 1);
    }

    static void isFalse(String what, boolean got) {
        equal(what, got ? 1 : 0, 0);
    }

    /** The call throws just this class of exception, not one below it. */
    static void fails(String what, Class<? extends RuntimeException> due, Call call) {
        String got = "nothing";
        try {
            call.run();
        } catch (RuntimeException e) {
            got = e.getClass().getName();
        }
        if (got.equals(due.getName())) {
            passed++;
        } else {
            fail(what + " threw " + got + ", due is " + due.getName());
        }
    }

    static void done() {
        System.out.println(passed + " checks as due, " + failed + " not");
        if (failed > 0) {
            System.exit(1);
        }
    }
}
