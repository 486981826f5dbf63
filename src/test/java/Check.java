/** Counts what a test finds wrong; each test's main method ends with close(). */
final class Check {
    interface Call {
        void run();
    }

    private static int looked = 0;
    private static int wrong = 0;

    private Check() {
    }

    static void same(String what, long due, long got) {
        looked++;
        if (got != due) {
            complain(what + " answered " + got + ", due is " + due);
        }
    }

    static void sameDouble(String what, double due, double got) {
        same(what, Double.doubleToLongBits(due), Double.doubleToLongBits(got));
    }

    /** The call throws exactly this, and changes nothing that the digest tells. */
    static void refused(String what, TempoPlayer player, Class<? extends RuntimeException> due, Call call) {
        looked++;
        long before = player.digest();
        Class<?> got = thrownBy(call);
        if (got != due) {
            complain(what + " threw " + got + ", due is " + due);
        }
        if (player.digest() != before) {
            complain(what + " was refused and changed something");
        }
    }

    static Class<?> thrownBy(Call call) {
        try {
            call.run();
            return null;
        } catch (RuntimeException e) {
            return e.getClass();
        }
    }

    static void sameText(String what, String due, String got) {
        looked++;
        if (!got.equals(due)) {
            complain(what + " answered " + got + ", due is " + due);
        }
    }

    static void isTrue(String what, boolean is) {
        same(what, 1, is ? 1 : 0);
    }

    static void complain(String what) {
        wrong++;
        if (wrong <= 20) {
            System.out.println(what);
        }
    }

    static void close() {
        System.out.println(looked + " answers looked at, " + wrong + " wrong");
        if (wrong > 0 || looked == 0) {
            System.exit(1);
        }
    }
}
