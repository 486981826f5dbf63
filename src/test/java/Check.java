import java.util.List;
import java.util.function.Consumer;
import java.util.function.Supplier;

/** Counts what a test finds wrong; each test's main method ends with close(), or with that of Doc. */
final class Check {
    interface Call {
        void run();
    }

    private static int looked = 0;
    private static int wrong = 0;
    /** The promise, and the words of it, that the answers are looked at for. */
    private static String about = "";

    private Check() {
    }

    static {
        Thread watch = new Thread(Check::endLateTest);
        watch.setDaemon(true);
        watch.start();
    }

    /** So that a call that does not end makes the test fail. */
    private static void endLateTest() {
        try {
            Thread.sleep(300000);
        } catch (InterruptedException e) {
            return;
        }
        System.out.println(about + "the test takes more than five minutes");
        Runtime.getRuntime().halt(1);
    }

    static void about(String words) {
        about = words;
    }

    static int looked() {
        return looked;
    }

    static void same(String what, long due, long got) {
        looked++;
        if (got != due) {
            complain(what + " answered " + got + ", due is " + due);
        }
    }

    static void sameDouble(String what, double due, double got) {
        same(what, Double.doubleToLongBits(due), Double.doubleToLongBits(got));
    }

    static void sameText(String what, String due, String got) {
        looked++;
        if (!got.equals(due)) {
            complain(what + " answered " + got + ", due is " + due);
        }
    }

    static void isTrue(String what, boolean is) {
        same(what, 1, is ? 1 : 0);
    }

    /** The call throws exactly this, and changes nothing that the digest tells. */
    static void refused(String what, TempoPlayer player, Class<?> due, Call call) {
        long before = player.digest();
        throwsThis(what, due, call);
        same(what + " was refused; the digest behind it", before, player.digest());
    }

    /** The same with a look at all that there is, beside a player that was not called. */
    static void refusedOn(Supplier<TempoPlayer> maker, String what, Class<?> due, Consumer<TempoPlayer> call) {
        TempoPlayer player = maker.get();
        throwsThis(what, due, () -> call.accept(player));
        List<Long> untouched = Look.at(maker.get());
        sameText(what + " was refused; all that there is behind it", untouched.toString(), Look.at(player).toString());
    }

    private static void throwsThis(String what, Class<?> due, Call call) {
        sameText(what, "throws " + due, "throws " + thrownBy(call));
    }

    static Class<?> thrownBy(Call call) {
        try {
            call.run();
            return null;
        } catch (RuntimeException e) {
            return e.getClass();
        }
    }

    static void complain(String what) {
        wrong++;
        if (wrong <= 20) {
            System.out.println(about + what);
        }
    }

    static void close() {
        System.out.println(looked + " answers looked at, " + wrong + " wrong");
        if (wrong > 0 || looked == 0) {
            System.exit(1);
        }
    }
}
