import java.util.Arrays;
import java.util.List;
import java.util.function.Supplier;

/** Exceptions: every set of faults that a call can have at once, for every call that throws. */
public final class RefusedTest {
    /** In the order of the throws clauses. */
    private static final List<Class<?>> ORDER = List.of(Pieces.INDEX, Pieces.ARGUMENT, Pieces.STATE);
    private static final Supplier<TempoPlayer> RICH = Pieces::rich;
    private static final Supplier<TempoPlayer> EMPTY = TempoPlayer::new;

    private final int promise;
    private final String name;
    private final long[] good;
    private Fault[] faults = {};

    /** Values that an argument must not have. */
    private static final class Fault {
        private final int argument;
        private final Class<?> due;
        private final long[] values;

        private Fault(int argument, Class<?> due, long... values) {
            this.argument = argument;
            this.due = due;
            this.values = values;
        }
    }

    private RefusedTest(int promise, String name, long... good) {
        this.promise = promise;
        this.name = name;
        this.good = good;
    }

    public static void main(String[] args) {
        Doc.says("Exceptions", "A call that throws an exception changes nothing.");
        changes();
        historyAndInput();
        Doc.says("Exceptions", "If several exceptions apply, the one that is named first in the throws clause is thrown.");
        playing();
        looks();
        ahead();
        Doc.close(RefusedTest.class);
    }

    private RefusedTest index(int argument, long... values) {
        return with(new Fault(argument, Pieces.INDEX, values));
    }

    private RefusedTest range(int argument, long... values) {
        return with(new Fault(argument, Pieces.ARGUMENT, values));
    }

    private RefusedTest with(Fault fault) {
        faults = Arrays.copyOf(faults, faults.length + 1);
        faults[faults.length - 1] = fault;
        return this;
    }

    /** Players that can do the call; with none of the faults it is answered. */
    @SafeVarargs
    private RefusedTest able(Supplier<TempoPlayer>... makers) {
        for (Supplier<TempoPlayer> maker : makers) {
            TempoPlayer player = maker.get();
            Check.sameText("promise " + promise + ", " + name + Arrays.toString(good), "throws null",
                "throws " + Check.thrownBy(() -> Calls.on(player, name, good)));
            tryFaults(maker, 0, good, ORDER.size());
        }
        return this;
    }

    /** Players that can't, whatever the arguments. */
    @SafeVarargs
    private RefusedTest unable(Class<?> due, Supplier<TempoPlayer>... makers) {
        for (Supplier<TempoPlayer> maker : makers) {
            tryFaults(maker, 0, good, ORDER.indexOf(due));
        }
        return this;
    }

    @SafeVarargs
    private RefusedTest unable(Supplier<TempoPlayer>... makers) {
        return unable(Pieces.STATE, makers);
    }

    /** With and without each fault from this one on; the least is the first named of those that there are already. */
    private void tryFaults(Supplier<TempoPlayer> maker, int next, long[] arguments, int least) {
        if (next == faults.length) {
            if (least < ORDER.size()) {
                Check.refusedOn(maker, "promise " + promise + ", " + name + Arrays.toString(arguments), ORDER.get(least),
                    player -> Calls.on(player, name, arguments));
            }
            return;
        }
        tryFaults(maker, next + 1, arguments, least);
        Fault fault = faults[next];
        for (long value : fault.values) {
            long[] changed = arguments.clone();
            changed[fault.argument] = value;
            tryFaults(maker, next + 1, changed, Math.min(least, ORDER.indexOf(fault.due)));
        }
    }

    private static RefusedTest of(int promise, String name, long... good) {
        return new RefusedTest(promise, name, good);
    }

    private static TempoPlayer withText(TempoPlayer player, String text) {
        boolean wasPlaying = player.count(9) == 1;
        player.clearInput();
        Pieces.write(player, text);
        Check.isTrue("writing lets it play on", wasPlaying == (player.count(9) == 1));
        return player;
    }

    private static void changes() {
        of(2, "begin").able(RICH, Pieces::full, EMPTY).unable(Pieces::playing, Pieces::fullPlaying);
        of(3, "addBar", 4, 2).range(0, 0, 13, -4).range(1, 0, 9, -2).able(RICH, EMPTY)
            .unable(Pieces::playing, Pieces::full, Pieces::fullPlaying);
        long[][] values = {{12, 0, 13}, {8, 0, 9}, {60000, 99, 60001, -1}, {20000, -1, 20001}, {4095, -1, 4096}};
        for (int what = 0; what < values.length; what++) {
            long[] wrong = Arrays.copyOfRange(values[what], 1, values[what].length);
            of(4, "setBar", 0, what, values[what][0]).index(0, -1, 24).range(2, wrong).able(RICH, Pieces::full)
                .unable(Pieces::playing, Pieces::fullPlaying);
            of(4, "setBar", 0, what, values[what][0]).index(1, -1, 5).range(2, wrong).able(RICH).unable(Pieces::playing);
            of(4, "setBar", 0, what, values[what][0]).range(2, wrong).unable(Pieces.INDEX, EMPTY);
        }
        of(5, "removeBar", 0).index(0, -1, 24).able(RICH, Pieces::full).unable(Pieces::playing, Pieces::fullPlaying)
            .unable(Pieces.INDEX, EMPTY);
        of(6, "mark", 287, 4000, 1).range(0, -1, 288).range(1, 199, 4001).able(RICH, EMPTY)
            .unable(Pieces::playing, Pieces::full, Pieces::fullPlaying);
        of(6, "mark", 0, 200, 0).range(0, -1, 288).range(1, 199, 4001).able(Pieces::full).unable(Pieces::fullPlaying);
        of(7, "removeMark", 0).index(0, -1, 10).able(RICH, Pieces::full).unable(Pieces::playing, Pieces::fullPlaying)
            .unable(Pieces.INDEX, EMPTY);
        of(8, "cue", 8, 479, 5000).index(0, -1, 288).range(1, -1, 480).range(2, -1, 5001).able(RICH)
            .unable(Pieces::playing, Pieces::full, Pieces::fullPlaying);
        of(8, "cue", 0, 0, 0).range(1, -1, 480).range(2, -1, 5001).unable(Pieces.INDEX, EMPTY);
        of(9, "removeCue", 0).index(0, -1, 12).able(RICH, Pieces::full).unable(Pieces::playing, Pieces::fullPlaying)
            .unable(Pieces.INDEX, EMPTY);
        of(10, "load").able(() -> withText(Pieces.rich(), "1"))
            .unable(() -> withText(Pieces.playing(), "1"), () -> withText(Pieces.full(), "1"),
                () -> withText(Pieces.fullPlaying(), "1"))
            .unable(Pieces.ARGUMENT, EMPTY, RICH, Pieces::playing, Pieces::full, Pieces::fullPlaying);
    }

    private static void historyAndInput() {
        of(11, "undo").able(RICH, Pieces::full).unable(EMPTY, Pieces::playing, Pieces::fullPlaying, RefusedTest::undoneAndPlaying);
        of(12, "keep", 0).index(0, -1, 2).able(RICH, Pieces::full, EMPTY, Pieces::playing);
        of(13, "back", 0).index(0, -1, 2).able(Pieces::full).unable(RICH, Pieces::playing, Pieces::fullPlaying, EMPTY);
        of(13, "back", 1).index(0, -1, 2).able(RICH, Pieces::full).unable(Pieces::playing, Pieces::fullPlaying, EMPTY);
        of(14, "append", '1').range(0, 31, 127).able(RICH, EMPTY, Pieces::playing).unable(Pieces::full, Pieces::fullPlaying);
    }

    /** Something is played, and the history is empty. */
    private static TempoPlayer undoneAndPlaying() {
        TempoPlayer player = new TempoPlayer();
        for (int bar = 0; bar < 9; bar++) {
            player.addBar(2, 2);
        }
        for (int state = 0; state < 8; state++) {
            player.undo();
        }
        player.start(0, 0, 100);
        return player;
    }

    private static void playing() {
        of(17, "start", 0, 8, 200).index(0, -1, 24).range(1, -1, 9).range(2, 49, 201).able(RICH, Pieces::full)
            .unable(Pieces::playing, Pieces::fullPlaying);
        of(17, "start", 0, 0, 50).range(1, -1, 9).range(2, 49, 201).unable(Pieces.INDEX, EMPTY);
        of(18, "advance", 60000).range(0, 0, 60001, -1).able(Pieces::playing, Pieces::fullPlaying).unable(RICH, EMPTY, Pieces::full);
        of(19, "stop").able(Pieces::playing, Pieces::fullPlaying).unable(RICH, EMPTY, Pieces::full);
        of(20, "playing", 6).range(0, -1, 7).able(EMPTY, RICH, Pieces::playing);
    }

    private static void looks() {
        of(21, "bar", 2, 5).index(0, -1, 24).range(1, -1, 6).able(RICH, Pieces::full, Pieces::playing).unable(Pieces.INDEX, EMPTY);
        of(22, "beat", 8, 6).index(0, -1, 288).range(1, -1, 7).able(RICH, Pieces::full, Pieces::playing)
            .unable(Pieces.INDEX, EMPTY);
        of(23, "click", 0, 1).index(0, -1, 288).index(1, -1, 8).able(RICH, Pieces::full, Pieces::playing)
            .unable(Pieces.INDEX, EMPTY);
        of(24, "tempo", 1, 2).index(0, -1, 10).range(1, -1, 3).able(RICH, Pieces::full, Pieces::playing)
            .unable(Pieces.INDEX, EMPTY);
        of(25, "cueAt", 2, 4).index(0, -1, 12).range(1, -1, 5).able(RICH, Pieces::full, Pieces::playing)
            .unable(Pieces.INDEX, EMPTY);
        of(26, "at", 0, 2).range(1, -1, 3).able(RICH, EMPTY, Pieces::full, Pieces::playing);
        of(26, "at", -1, 2).range(1, -1, 3).able(RICH, EMPTY);
        of(27, "count", 11).range(0, -1, 12).able(RICH, EMPTY, Pieces::full, Pieces::playing);
    }

    private static void ahead() {
        String[] forecasts = {"bestSpeed", "rubberFor"};
        for (int index = 0; index < forecasts.length; index++) {
            of(28 + index, forecasts[index], 0, 1000000000).index(0, -1, 24).range(1, 0, 1000000001, Long.MIN_VALUE, Long.MAX_VALUE)
                .able(RICH, Pieces::full, Pieces::playing).unable(Pieces.INDEX, EMPTY);
        }
        of(30, "ifMark", 8, 287, 4000).index(0, -1, 288).range(1, -1, 288).range(2, 199, 4001)
            .able(RICH, Pieces::full, Pieces::playing).unable(Pieces.INDEX, EMPTY);
    }
}
