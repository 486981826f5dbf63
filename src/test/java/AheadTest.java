/** Promises 28 to 32: what would be; nothing changes by it. */
public final class AheadTest {
    public static void main(String[] args) {
        promise28BestSpeed();
        promise28Refused();
        promise29RubberFor();
        promise29Refused();
        promise30IfMark();
        promise30ElevenMarks();
        promise30Refused();
        promise31MeanTempo();
        promise32Digest();
        promise32Empty();
        nothingChanges();
        Check.close();
    }

    private static void promise28BestSpeed() {
        TempoPlayer player = Pieces.of("2d2p100;1");
        long[][] due = {{1600000, 100}, {1, 200}, {1000000000, 50}, {3200000, 50}, {800000, 200}, {1592080, 100},
            {1592079, 100}, {1592078, 101}, {802009, 200}, {802010, 199}, {802011, 199}, {3168628, 50}, {3168627, 50},
            {3168626, 51}};
        for (long[] pair : due) {
            Check.same("bestSpeed(0, " + pair[0] + ")", pair[1], player.bestSpeed(0, pair[0]));
        }
        Check.same("bestSpeed of bar 1", 100, player.bestSpeed(1, 500000));
        Check.same("bestSpeed of bar 1", 50, player.bestSpeed(1, 1600000));
        player.start(1, 8, 50);
        Check.same("while playing, without its count-in", 125, player.bestSpeed(0, 1280000));
    }

    private static void promise28Refused() {
        TempoPlayer player = Pieces.of("1;1");
        Check.refused("bar 2", player, Pieces.INDEX, () -> player.bestSpeed(2, 0));
        Check.refused("bar -1", player, Pieces.INDEX, () -> player.bestSpeed(-1, 1));
        long[] wrong = {0, -1, 1000000001, Long.MIN_VALUE, Long.MAX_VALUE};
        for (long target : wrong) {
            Check.refused("bestSpeed(0, " + target + ")", player, Pieces.ARGUMENT, () -> player.bestSpeed(0, target));
        }
    }

    private static void promise29RubberFor() {
        TempoPlayer player = Pieces.of("2;3p100");
        rubberForBar0(player);
        Check.same("bar 1, its pause stays", 101, player.rubberFor(1, 1200001));
        player.setBar(0, 2, 5000);
        rubberForBar0(player);
        player.start(0, 0, 100);
        rubberForBar0(player);
        player.stop();
        player.setBar(0, 2, 2345);
        player.setBar(0, 2, player.rubberFor(0, 7654321));
        Check.same("the end is then not less than the target", 7655000, player.count(5));
    }

    private static void rubberForBar0(TempoPlayer player) {
        long[][] due = {{1, 100}, {1600000, 100}, {1700000, 100}, {1700001, 101}, {1701000, 101}, {1701001, 102},
            {61600000, 60000}, {61599001, 60000}, {61599000, 59999}, {61600001, -1}, {1000000000, -1}};
        for (long[] pair : due) {
            Check.same("rubberFor(0, " + pair[0] + ")", pair[1], player.rubberFor(0, pair[0]));
        }
    }

    private static void promise29Refused() {
        TempoPlayer player = Pieces.of("1;1");
        Check.refused("bar 2", player, Pieces.INDEX, () -> player.rubberFor(2, 0));
        Check.refused("bar -1", player, Pieces.INDEX, () -> player.rubberFor(-1, 1));
        long[] wrong = {0, -1, 1000000001, Long.MIN_VALUE, Long.MAX_VALUE};
        for (long target : wrong) {
            Check.refused("rubberFor(0, " + target + ")", player, Pieces.ARGUMENT, () -> player.rubberFor(0, target));
        }
    }

    private static void promise30IfMark() {
        TempoPlayer player = Pieces.of("4;4p50;2");
        Check.same("a mark alone holds", 1000000, player.ifMark(2, 2, 600));
        Check.same("a mark alone holds", 2000000, player.ifMark(3, 2, 600));
        Check.same("the pause counts", 1000000 + 6 * 2000000 + 50000, player.ifMark(8, 2, 300));
        player.mark(4, 1200, false);
        Check.same("it is gradual", 1000000 + 1000000 + 666666, player.ifMark(4, 2, 600));
        player.mark(2, 2400, false);
        Check.same("in place of one", 1000000 + 1000000 + 666666, player.ifMark(4, 2, 600));
        player.mark(0, 600, true);
        Check.same("the mark before goes to it", 1000000 + 666666, player.ifMark(2, 2, 1200));
        Check.same("a mark behind the piece", player.beat(9, 4), player.ifMark(9, 287, 200));
        Check.same("marks stay", 3, player.count(2));
        Check.same("its tempo stays", 2400, player.tempo(1, 1));
        player.start(0, 0, 100);
        Check.same("while playing", 1000000 + 666666, player.ifMark(2, 2, 1200));
    }

    private static void promise30ElevenMarks() {
        TempoPlayer player = Pieces.of("12");
        for (int mark = 0; mark < 10; mark++) {
            player.mark(mark, 600, false);
        }
        Check.same("an 11th mark behind all", 11000000, player.ifMark(11, 11, 300));
        Check.same("an 11th mark at the last but one", 12000000, player.ifMark(11, 10, 300));
        Check.same("one of the ten", 12000000, player.ifMark(11, 0, 300));
        player.removeMark(0);
        player.mark(20, 1200, true);
        Check.same("an 11th mark before all", 9000000 + 1000000 + 2000000, player.ifMark(11, 0, 300));
        Check.same("marks stay", 10, player.count(2));
    }

    private static void promise30Refused() {
        TempoPlayer player = Pieces.of("2");
        Check.refused("beat 2", player, Pieces.INDEX, () -> player.ifMark(2, 288, 0));
        Check.refused("beat -1", player, Pieces.INDEX, () -> player.ifMark(-1, 0, 1200));
        Check.refused("mark 288", player, Pieces.ARGUMENT, () -> player.ifMark(0, 288, 1200));
        Check.refused("mark -1", player, Pieces.ARGUMENT, () -> player.ifMark(0, -1, 1200));
        Check.refused("tempo 199", player, Pieces.ARGUMENT, () -> player.ifMark(0, 0, 199));
        Check.refused("tempo 4001", player, Pieces.ARGUMENT, () -> player.ifMark(0, 0, 4001));
        Check.same("mark 287, tempo 200", 500000, player.ifMark(1, 287, 200));
        Check.same("tempo 200", 3000000, player.ifMark(1, 0, 200));
        Check.same("tempo 4000", 150000, player.ifMark(1, 0, 4000));
    }

    private static void promise31MeanTempo() {
        Check.sameDouble("no bars", 0.0, new TempoPlayer().meanTempo());
        Check.sameDouble("1200", 120.0, Pieces.of("4").meanTempo());
        Check.sameDouble("with a pause", 60000000.0 * 7 / 3807000.0, Pieces.of("4p7;3p300").meanTempo());
        Check.sameDouble("the fastest", 7200.0, Pieces.of("12r100").meanTempo());
        Check.sameDouble("the slowest", 0.75, Pieces.of("1r60000p20000").meanTempo());
        TempoPlayer player = Pieces.of("4");
        player.mark(0, 700, false);
        Check.sameDouble("700", 60000000.0 * 4 / (4 * 857142.0), player.meanTempo());
    }

    private static void promise32Digest() {
        TempoPlayer player = Pieces.of("4d2r1000p250;3");
        player.mark(0, 1200, true);
        player.mark(4, 600, false);
        player.cue(1, 240, 100);
        player.cue(4, 0, 3000);
        Check.same("digest", digestOf(player, ""), player.digest());
        Pieces.write(player, "x ~1");
        Check.same("digest with input", digestOf(player, "x ~1"), player.digest());
        player.start(0, 2, 130);
        Check.same("digest while playing", digestOf(player, "x ~1"), player.digest());
        player.advance(700);
        Check.same("digest while playing", digestOf(player, "x ~1"), player.digest());
        player.advance(60000);
        Check.same("digest after", digestOf(player, "x ~1"), player.digest());
        for (int pause = 1; pause <= 20000; pause += 99) {
            TempoPlayer other = Pieces.of("1d3r" + (100 + 2 * pause) + "p" + pause);
            Check.same("digest with pause " + pause, digestOf(other, ""), other.digest());
        }
        String[] texts = {"12r100", "1r60000p20000", "1", "2", "1r500;1", "1p500", "8", "1r468p1", "1r234", "1r937p1"};
        for (String text : texts) {
            TempoPlayer other = Pieces.of(text);
            Check.same("digest of " + text, digestOf(other, ""), other.digest());
        }
    }

    private static void promise32Empty() {
        long hash = 2083;
        for (int value = 0; value < 12; value++) {
            hash = 31 * hash;
        }
        for (int value = 0; value < 7; value++) {
            hash = 31 * hash - 1;
        }
        Check.same("digest of a new object", hash * 31 * 31, new TempoPlayer().digest());
    }

    private static long digestOf(TempoPlayer player, String input) {
        Hash hash = new Hash();
        for (int what = 0; what <= 11; what++) {
            hash.take(player.count(what));
        }
        for (int what = 0; what <= 6; what++) {
            hash.take(player.playing(what));
        }
        for (int bar = 0; bar < player.count(0); bar++) {
            for (int what = 0; what <= 5; what++) {
                hash.take(player.bar(bar, what));
            }
        }
        for (int beat = 0; beat < player.count(1); beat++) {
            for (int what = 2; what <= 6; what++) {
                hash.take(player.beat(beat, what));
            }
        }
        for (int mark = 0; mark < player.count(2); mark++) {
            for (int what = 0; what <= 2; what++) {
                hash.take(player.tempo(mark, what));
            }
        }
        for (int cue = 0; cue < player.count(3); cue++) {
            for (int what = 0; what <= 4; what++) {
                hash.take(player.cueAt(cue, what));
            }
        }
        hash.take(Double.doubleToLongBits(player.meanTempo()));
        hash.take(input.length());
        for (int index = 0; index < input.length(); index++) {
            hash.take(input.charAt(index));
        }
        return hash.value;
    }

    private static final class Hash {
        long value = 2083;

        void take(long next) {
            value = 31 * value + next;
        }
    }

    private static void nothingChanges() {
        TempoPlayer player = Pieces.of("4r900;3p5;2");
        player.mark(3, 600, true);
        player.cue(8, 7, 8);
        long digest = player.digest();
        for (int bar = 0; bar < 3; bar++) {
            player.bestSpeed(bar, 1234567);
            player.rubberFor(bar, 7654321);
            player.ifMark(2 * bar, 5, 333);
            player.meanTempo();
            Check.same("the state", digest, player.digest());
        }
        Check.same("undo", 2, player.undo());
    }
}
