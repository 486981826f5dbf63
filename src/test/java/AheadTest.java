import java.math.BigInteger;
import java.util.ArrayList;
import java.util.List;
import java.util.function.Supplier;

/** Promises 28 to 32: what would be; nothing changes by it. */
public final class AheadTest {
    public static void main(String[] args) {
        promise28();
        promise28Refused();
        promise29();
        promise29Refused();
        promise30();
        promise30Marks();
        promise30Refused();
        promise31();
        promise32();
        promise32Overflow();
        promise32Texts();
        Doc.close(AheadTest.class);
    }

    /** 1600 ms; 500 from bar 1 on. */
    private static TempoPlayer usual() {
        return Pieces.of("2d2p100;1");
    }

    private static void changesNothing(String call, long... arguments) {
        long before = Pieces.playing().digest();
        TempoPlayer player = Pieces.playing();
        Calls.on(player, call, arguments);
        Check.same("the digest behind " + call, before, player.digest());
        Check.sameText("all that there is behind " + call, Look.at(Pieces.playing()).toString(), Look.at(player).toString());
    }

    private static void promise28() {
        Trial best = new Trial(AheadTest::usual, "bestSpeed", 0, 1600000);
        Doc.says(28, "Finds the speed with which the piece, from a bar on, takes as long as it should.");
        best.answers(100);
        best.answers(1, 3200000, 50);
        best.answers(1, 800000, 200);
        best.answers(1, 804020, 199);
        best.answers(0, 1, 50);
        new Trial(AheadTest::usual, "bestSpeed", 1, 500000).answers(100);
        changesNothing("bestSpeed", 1, 5000000);

        Doc.says(28, "`bar`: the bar");
        new Trial(Pieces::rich, "bestSpeed", 0, 1).range(0, 0, 2, Pieces.INDEX);
        new Trial(Pieces::full, "bestSpeed", 0, 1).range(0, 0, 23, Pieces.INDEX);

        Doc.says(28, "`target`: the wanted played end without a count-in, 1 to 1000000000");
        best.range(1, 1, 1000000000, Pieces.ARGUMENT);
        TempoPlayer playing = usual();
        playing.start(1, 8, 50);
        Check.same("while playing, without its count-in", 125, playing.bestSpeed(0, 1280000));
        Check.same("with the last pause", 103, Pieces.of("1p20000").bestSpeed(0, 20000000));

        Doc.says(28, "Returns the speed, 50 to 200, for which the played end differs least from the target, of several the lowest one.");
        best.answers(1, 1, 200);
        best.answers(1, 1000000000, 50);
        long[][] due = {{1592080, 100}, {1592079, 100}, {1592078, 101}, {802009, 200}, {802010, 199}, {802011, 199}, {3168628, 50},
            {3168627, 50}, {3168626, 51}};
        for (long[] pair : due) {
            best.answers(1, pair[0], pair[1]);
        }
        new Trial(() -> Pieces.of("12r100"), "bestSpeed", 0, 74626).answers(134);
        new Trial(Pieces::longest, "bestSpeed", 0, 1000000000).answers(192);
        new Trial(Pieces::longest, "bestSpeed", 0, 1).answers(200);
    }

    private static void promise28Refused() {
        Trial best = new Trial(Pieces::rich, "bestSpeed", 0, 1600000);
        Doc.says(28, "Throws `IndexOutOfBoundsException` if the bar does not exist");
        new Trial(TempoPlayer::new, "bestSpeed", 0, 1).refused(Pieces.INDEX);
        best.refuses(0, Pieces.INDEX, -1, 3, Integer.MIN_VALUE, Integer.MAX_VALUE);

        Doc.says(28, "Throws `IllegalArgumentException` if target is out of range");
        best.refuses(1, Pieces.ARGUMENT, 0, 1000000001, -1, Integer.MAX_VALUE, Long.MIN_VALUE, Long.MAX_VALUE, (1L << 32) + 1);
    }

    private static void promise29() {
        Doc.says(29, "Finds the rubber length with which a bar, whether it is a rubber bar now or not, would make the piece end as it "
            + "should.");
        TempoPlayer player = Pieces.of("2;3p100");
        rubberForBar0(player);
        Check.same("bar 1, its pause stays", 101, player.rubberFor(1, 1200001));
        player.setBar(0, 2, 5000);
        rubberForBar0(player);
        player.start(0, 0, 100);
        rubberForBar0(player);
        player.stop();
        player.setBar(0, 2, 2345);
        player.setBar(0, 2, player.rubberFor(0, 7654321));
        Check.same("the end is then not less than the target", 7655000, player.count(5));
        changesNothing("rubberFor", 1, 5000000);

        Doc.says(29, "`bar`: the bar");
        new Trial(Pieces::rich, "rubberFor", 0, 1).range(0, 0, 2, Pieces.INDEX);
        new Trial(Pieces::full, "rubberFor", 0, 1).range(0, 0, 23, Pieces.INDEX);

        Doc.says(29, "`target`: the wanted end of the piece, 1 to 1000000000");
        new Trial(Pieces::rich, "rubberFor", 0, 1).range(1, 1, 1000000000, Pieces.ARGUMENT);
        new Trial(Pieces::longest, "rubberFor", 23, 1000000000).answers(100);

        Doc.says(29, "Returns the rubber length, 100 to 60000, for which the end of the piece is not less than the target, the least one; "
            + "NONE if there is none.");
        Trial one = new Trial(() -> Pieces.of("12"), "rubberFor", 0, 1);
        one.answers(100);
        long[][] due = {{100000, 100}, {100001, 101}, {101000, 101}, {101001, 102}, {59999000, 59999}, {59999001, 60000},
            {60000000, 60000}, {60000001, TempoPlayer.NONE}, {1000000000, TempoPlayer.NONE}};
        for (long[] pair : due) {
            one.answers(1, pair[0], pair[1]);
        }
        TempoPlayer many = Pieces.of("1r60000p20000;1r60000p20000;1r60000p20000;1");
        for (int bar = 4; bar < 16; bar++) {
            many.addBar(1, 1);
            many.setBar(bar, 2, 60000);
        }
        Check.same("the greatest target that can be met", 40000, many.rubberFor(3, 1000000000));
    }

    private static void rubberForBar0(TempoPlayer player) {
        long[][] due = {{1, 100}, {1600000, 100}, {1700000, 100}, {1700001, 101}, {1701000, 101}, {1701001, 102},
            {61600000, 60000}, {61599001, 60000}, {61599000, 59999}, {61600001, -1}, {1000000000, -1}};
        for (long[] pair : due) {
            Check.same("rubberFor(0, " + pair[0] + ")", pair[1], player.rubberFor(0, pair[0]));
        }
    }

    private static void promise29Refused() {
        Trial rubberFor = new Trial(Pieces::rich, "rubberFor", 0, 1600000);
        Doc.says(29, "Throws `IndexOutOfBoundsException` if the bar does not exist");
        new Trial(TempoPlayer::new, "rubberFor", 0, 1).refused(Pieces.INDEX);
        rubberFor.refuses(0, Pieces.INDEX, -1, 3, Integer.MIN_VALUE, Integer.MAX_VALUE);

        Doc.says(29, "Throws `IllegalArgumentException` if target is out of range");
        rubberFor.refuses(1, Pieces.ARGUMENT, 0, 1000000001, -1, Integer.MAX_VALUE, Long.MIN_VALUE, Long.MAX_VALUE, (1L << 32) + 1);
    }

    private static void promise30() {
        Doc.says(30, "Tells at which time a beat would begin if a mark was set.");
        TempoPlayer player = Pieces.of("4;4p50;2");
        Check.same("at the mark", 1000000, player.ifMark(2, 2, 600));
        Check.same("behind it", 2000000, player.ifMark(3, 2, 600));
        Check.same("the pause counts", 1000000 + 6 * 2000000 + 50000, player.ifMark(8, 2, 300));
        Check.same("before it", 500000, player.ifMark(1, 2, 300));
        TempoPlayer rubber = Pieces.of("2r1000;1");
        Check.same("in a rubber bar", 285714, rubber.ifMark(1, 1, 480));
        Check.same("behind it", 1000000, rubber.ifMark(2, 1, 480));
        changesNothing("ifMark", 8, 3, 200);
        changesNothing("ifMark", 8, 1, 200);

        Doc.says(30, "`beat`: the beat whose beginning is asked for");
        new Trial(Pieces::rich, "ifMark", 8, 2, 600).range(0, 0, 8, Pieces.INDEX);
        new Trial(Pieces::full, "ifMark", 8, 2, 600).range(0, 0, 287, Pieces.INDEX);

        Doc.says(30, "`tempo`: 200 to 4000");
        new Trial(Pieces::rich, "ifMark", 8, 2, 600).range(2, 200, 4000, Pieces.ARGUMENT);
        new Trial(() -> Pieces.of("2"), "ifMark", 1, 0, 200).answers(3000000);
        new Trial(() -> Pieces.of("2"), "ifMark", 1, 0, 4000).answers(150000);

        Doc.says(30, "Returns the time.");
        new Trial(() -> Pieces.of("1"), "ifMark", 0, 0, 200).answers(0);
        new Trial(Pieces::longest, "ifMark", 23, 287, 200).answers(1840000000L);
        TempoPlayer slow = Pieces.full();
        slow.begin();
        for (int bar = 0; bar < 24; bar++) {
            slow.addBar(12, 1);
        }
        Check.same("the slowest", 287 * 3000000L, slow.ifMark(287, 0, 200));
        Check.same("at the last beat", 287 * 500000L, slow.ifMark(287, 287, 200));
    }

    private static void promise30Marks() {
        Doc.says(30, "`mark`: the beat of the mark, 0 to 287; it is gradual, and takes the place of one at the same beat (the greatest "
            + "number of marks does not matter)");
        new Trial(Pieces::rich, "ifMark", 8, 2, 600).range(1, 0, 287, Pieces.ARGUMENT);
        TempoPlayer player = Pieces.of("4;4p50;2");
        player.mark(4, 1200, false);
        Check.same("it is gradual", 1000000 + 1000000 + 666666, player.ifMark(4, 2, 600));
        player.mark(2, 2400, false);
        Check.same("in place of one", 1000000 + 1000000 + 666666, player.ifMark(4, 2, 600));
        player.mark(0, 600, true);
        Check.same("the mark before goes to it", 1000000 + 666666, player.ifMark(2, 2, 1200));
        Check.same("a mark behind the piece", player.beat(9, 4), player.ifMark(9, 287, 200));
        Check.same("marks stay", 3, player.count(2));
        Check.same("its tempo stays", 2400, player.tempo(1, 1));
        player.start(0, 0, 100);
        Check.same("while playing", 1000000 + 666666, player.ifMark(2, 2, 1200));
        TempoPlayer ten = Pieces.of("12");
        for (int mark = 0; mark < 10; mark++) {
            ten.mark(mark, 600, false);
        }
        Check.same("an 11th mark behind all", 11000000, ten.ifMark(11, 11, 300));
        Check.same("an 11th mark at the last but one", 12000000, ten.ifMark(11, 10, 300));
        Check.same("one of the ten", 12000000, ten.ifMark(11, 0, 300));
        Check.same("the last of the ten", 13000000, ten.ifMark(11, 9, 300));
        ten.removeMark(0);
        ten.mark(20, 1200, true);
        Check.same("an 11th mark before all", 9000000 + 1000000 + 2000000, ten.ifMark(11, 0, 300));
        Check.same("marks stay", 10, ten.count(2));
        Check.refused("an 11th mark", ten, Pieces.STATE, () -> ten.mark(0, 300, true));
    }

    private static void promise30Refused() {
        Doc.says(30, "Throws `IndexOutOfBoundsException` if the piece does not have the beat");
        Trial ifMark = new Trial(Pieces::rich, "ifMark", 8, 2, 600);
        new Trial(TempoPlayer::new, "ifMark", 0, 0, 200).refused(Pieces.INDEX);
        ifMark.refuses(0, Pieces.INDEX, -1, 9, Integer.MIN_VALUE, Integer.MAX_VALUE);
        new Trial(Pieces::full, "ifMark", 288, 0, 200).refused(Pieces.INDEX);

        Doc.says(30, "Throws `IllegalArgumentException` if mark or tempo is out of range");
        ifMark.refuses(1, Pieces.ARGUMENT, -1, 288, Integer.MIN_VALUE, Integer.MAX_VALUE);
        ifMark.refuses(2, Pieces.ARGUMENT, 199, 4001, Integer.MIN_VALUE, Integer.MAX_VALUE);
    }

    private static void promise31() {
        Doc.says(31, "Returns the mean tempo.");
        Check.sameDouble("1200", 120.0, Pieces.of("4").meanTempo());
        TempoPlayer player = Pieces.of("4");
        player.mark(0, 700, false);
        Check.sameDouble("700", 60000000.0 * 4 / (4 * 857142.0), player.meanTempo());
        changesNothing("meanTempo");

        Doc.says(31, "Returns 60000000.0 times the number of beats, divided by the end of the piece as a double, in beats per minute; 0.0 "
            + "if there are no bars.");
        Check.sameDouble("no bars", 0.0, new TempoPlayer().meanTempo());
        TempoPlayer emptied = Pieces.of("4");
        emptied.removeBar(0);
        Check.sameDouble("no bars any more", 0.0, emptied.meanTempo());
        Check.sameDouble("with a pause", 60000000.0 * 7 / 3807000.0, Pieces.of("4p7;3p300").meanTempo());
        Check.sameDouble("the fastest", 7200.0, Pieces.of("12r100").meanTempo());
        Check.sameDouble("the slowest", 0.75, Pieces.of("1r60000p20000").meanTempo());
        Check.sameDouble("no whole number", 60000000.0 * 1 / 700000.0, Pieces.of("1r700").meanTempo());
        Check.sameDouble("the most beats", 60000000.0 * 288 / 144000000.0, most().meanTempo());
    }

    private static TempoPlayer most() {
        TempoPlayer player = new TempoPlayer();
        for (int bar = 0; bar < 24; bar++) {
            player.addBar(12, 8);
        }
        return player;
    }

    private static void promise32() {
        Doc.says(32, "Computes a hash of the whole state.");
        TempoPlayer rich = Pieces.rich();
        Check.same("the same once more", rich.digest(), rich.digest());
        Check.same("of another one made alike", rich.digest(), Pieces.rich().digest());
        changesNothing("digest");

        Doc.says(32, "The hash starts as 2083; each value x replaces the hash by 31 * hash + x");
        long hash = 2083;
        for (int value = 0; value < 12; value++) {
            hash = 31 * hash;
        }
        for (int value = 0; value < 7; value++) {
            hash = 31 * hash - 1;
        }
        Check.same("of a new object", hash * 31 * 31, new TempoPlayer().digest());

        Doc.says(32, "The values are, in this order: count for 0 to 11; playing for 0 to 6; for each bar its properties 0 to 5; for each "
            + "beat its properties 2 to 6; for each mark its properties 0 to 2; for each cue its properties 0 to 4; meanTempo as "
            + "Double.doubleToLongBits; the length of the input buffer and each of its character codes.");
        sameDigest("rich", Pieces::rich, "3d");
        sameDigest("playing", Pieces::playing, "3d");
        sameDigest("over", AheadTest::over, "3d");
        sameDigest("full", Pieces::full, "1".repeat(60));
        sameDigest("full, playing", Pieces::fullPlaying, "1".repeat(60));
        sameDigest("input", () -> Pieces.written("x ~1"), "x ~1");
        sameDigest("longest", Pieces::longest, "");
        sameDigest("cleared", AheadTest::cleared, "");
        for (int pause = 1; pause <= 20000; pause += 99) {
            String text = "1d3r" + (100 + 2 * pause) + "p" + pause;
            sameDigest(text, () -> Pieces.of(text), "");
        }
        String[] texts = {"12r100", "1r60000p20000", "1", "2", "1r500;1", "1p500", "8", "1r468p1", "1r234", "1r937p1", "1r60000",
            "2r60000", "4r60000", "8r60000", "4r1875", "2r1875", "1r1875", "1r60000p1", "2r60000p1", "4r1875p1", "1r59999"};
        for (String text : texts) {
            sameDigest(text, () -> Pieces.of(text), "");
        }

        Doc.says(32, "Returns the hash.");
        Check.same("of a new object", -8232728044497912740L, new TempoPlayer().digest());
        TempoPlayer one = Pieces.of("1");
        Check.same("of a bar", -3029743988890841772L, one.digest());
        Pieces.write(one, "3d");
        Check.same("with input", 3001590322010216039L, one.digest());
    }

    private static TempoPlayer over() {
        TempoPlayer player = Pieces.playing();
        player.advance(60000);
        return player;
    }

    private static TempoPlayer cleared() {
        TempoPlayer player = Pieces.full();
        player.begin();
        player.clearInput();
        return player;
    }

    private static void sameDigest(String what, Supplier<TempoPlayer> maker, String input) {
        Check.same("digest of " + what, hashOf(values(maker, input)).longValue(), maker.get().digest());
    }

    /** Without an overflow: as large as it becomes. */
    private static BigInteger hashOf(List<Long> values) {
        BigInteger hash = BigInteger.valueOf(2083);
        for (long value : values) {
            hash = hash.multiply(BigInteger.valueOf(31)).add(BigInteger.valueOf(value));
        }
        return hash;
    }

    /** Asked of players made anew, as one of them is good for 512 calls. */
    private static List<Long> values(Supplier<TempoPlayer> maker, String input) {
        List<Long> values = new ArrayList<>();
        TempoPlayer player = maker.get();
        for (int what = 0; what <= 11; what++) {
            values.add(player.count(what));
        }
        for (int what = 0; what <= 6; what++) {
            values.add(player.playing(what));
        }
        addAll(values, maker, "bar", player.count(0), 0, 5);
        addAll(values, maker, "beat", player.count(1), 2, 6);
        addAll(values, maker, "tempo", player.count(2), 0, 2);
        addAll(values, maker, "cueAt", player.count(3), 0, 4);
        values.add(Double.doubleToLongBits(player.meanTempo()));
        values.add((long) input.length());
        for (char code : input.toCharArray()) {
            values.add((long) code);
        }
        return values;
    }

    private static void addAll(List<Long> values, Supplier<TempoPlayer> maker, String call, long count, int first, int last) {
        for (int number = 0; number < count; number++) {
            TempoPlayer player = maker.get();
            for (int what = first; what <= last; what++) {
                values.add(Calls.on(player, call, number, what));
            }
        }
    }

    private static void promise32Overflow() {
        Doc.says(32, "in long arithmetic with overflow");
        BigInteger unbounded = hashOf(values(TempoPlayer::new, ""));
        Check.isTrue("even a new object's does not fit", unbounded.bitLength() > 64);
        Check.same("its lowest 64 bits", unbounded.longValue(), new TempoPlayer().digest());
        BigInteger full = hashOf(values(Pieces::full, "1".repeat(60)));
        Check.isTrue("a full one's is far beyond", full.bitLength() > 7000);
        Check.same("its lowest 64 bits", full.longValue(), Pieces.full().digest());
    }

    private static void promise32Texts() {
        Doc.says(32, "the length of the input buffer and each of its character codes");
        long empty = new TempoPlayer().digest();
        Check.same("one character", (empty + 1) * 31 + '~', Pieces.written("~").digest());
        Check.same("two", ((empty + 2) * 31 + ' ') * 31 + '~', Pieces.written(" ~").digest());
    }
}
