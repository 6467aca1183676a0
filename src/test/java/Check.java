/** What the tests say and count; each test ends with end(). */
final class Check {
    private static int wrong;
    private static int checked;

    interface Call {
        void run();
    }

    private Check() {
    }

    static void same(String what, long got, long want) {
        checked++;
        if (got != want) {
            wrong++;
            System.out.println(what + " answered " + got + ", due is " + want);
        }
    }

    static void sign(String what, char got, char want) {
        checked++;
        if (got != want) {
            wrong++;
            System.out.println(what + " answered " + got + ", due is " + want);
        }
    }

    static void text(String what, String got, String want) {
        checked++;
        if (!got.equals(want)) {
            wrong++;
            System.out.println(what + " answered " + got + ", due is " + want);
        }
    }

    static void yes(String what, boolean got) {
        same(what, got ? 1 : 0, 1);
    }

    static void no(String what, boolean got) {
        same(what, got ? 1 : 0, 0);
    }

    static void number(String what, double got, double want) {
        checked++;
        if (got != want) {
            wrong++;
            System.out.println(what + " answered " + got + ", due is " + want);
        }
    }

    /** The very class of the exception is due: the interface names some that are classes of others. */
    static void fails(String what, Class<? extends RuntimeException> due, Call call) {
        checked++;
        try {
            call.run();
            wrong++;
            System.out.println(what + " threw nothing, due is " + due.getName());
        } catch (RuntimeException thrown) {
            if (thrown.getClass() != due) {
                wrong++;
                System.out.println(what + " threw " + thrown.getClass().getName() + ", due is " + due.getName());
            }
        }
    }

    static void end() {
        if (wrong > 0 || checked == 0) {
            System.out.println(wrong + " of " + checked + " checks are wrong");
            System.exit(1);
        }
        System.out.println(checked + " checks");
    }
}
