import java.util.Arrays;
import java.util.TreeSet;
import java.util.function.Supplier;

/** A call with arguments that it takes; others are tried in their places, each on a player made anew. */
final class Trial {
    private final Supplier<TempoPlayer> maker;
    private final String name;
    private final long[] good;

    Trial(Supplier<TempoPlayer> maker, String name, long... good) {
        this.maker = maker;
        this.name = name;
        this.good = good;
    }

    /** One of each change, for players with 3 bars, a mark, a cue, something in image 1 and a whole text. */
    static Trial[] changes(Supplier<TempoPlayer> maker) {
        return new Trial[] {new Trial(maker, "begin"), new Trial(maker, "addBar", 1, 1), new Trial(maker, "setBar", 0, 0, 2),
            new Trial(maker, "removeBar", 0), new Trial(maker, "mark", 0, 1200, 0), new Trial(maker, "removeMark", 0),
            new Trial(maker, "cue", 0, 0, 0), new Trial(maker, "removeCue", 0), new Trial(maker, "load"),
            new Trial(maker, "back", 1)};
    }

    long on(TempoPlayer player) {
        return Calls.on(player, name, good);
    }

    String name() {
        return name;
    }

    private long[] with(int argument, long value) {
        long[] changed = good.clone();
        changed[argument] = value;
        return changed;
    }

    /** The call as it is. */
    void answers(long due) {
        Check.same(name + Arrays.toString(good), due, on(maker.get()));
    }

    void answers(int argument, long value, long due) {
        new Trial(maker, name, with(argument, value)).answers(due);
    }

    void takes(int argument, long... values) {
        for (long value : values) {
            long[] changed = with(argument, value);
            TempoPlayer player = maker.get();
            Check.sameText(name + Arrays.toString(changed), "throws null",
                "throws " + Check.thrownBy(() -> Calls.on(player, name, changed)));
        }
    }

    /** The call as it is. */
    void refused(Class<?> due) {
        Check.refusedOn(maker, name + Arrays.toString(good), due, this::on);
    }

    void refuses(int argument, Class<?> due, long... values) {
        for (long value : values) {
            new Trial(maker, name, with(argument, value)).refused(due);
        }
    }

    /** Both ends are taken; one below, one above, and what lies far outside is refused. */
    void range(int argument, long least, long most, Class<?> due) {
        takes(argument, least, most);
        refusesBeyond(argument, least, most, due);
    }

    /** Values that would be in the range again if they were cut to a shorter type are among those. */
    void refusesBeyond(int argument, long least, long most, Class<?> due) {
        long[] far = {least - 1, most + 1, -1, Integer.MIN_VALUE, Integer.MAX_VALUE, Integer.MIN_VALUE + least,
            least + (1 << 8), least + (1 << 16), least - (1 << 16), Long.MIN_VALUE, Long.MAX_VALUE, Long.MIN_VALUE + least,
            least + (1L << 32), most + (1L << 32), least - (1L << 32)};
        TreeSet<Long> tried = new TreeSet<>();
        for (long value : far) {
            boolean fits = value == (int) value || Calls.takesLong(name, argument);
            if (fits && (value < least || value > most) && tried.add(value)) {
                refuses(argument, due, value);
            }
        }
    }
}
