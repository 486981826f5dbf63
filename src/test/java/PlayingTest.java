/** Promises 17 to 20: playing. The usual piece has clicks at 0, 250, 500, 750 and 1100 ms, and ends at 1600 ms. */
public final class PlayingTest {
    private static final String USUAL = "2d2p100;1";

    public static void main(String[] args) {
        promise17Start();
        promise17Refused();
        promise18Clicks();
        promise18CountIn();
        promise18Cues();
        promise18CuesOfLaterBars();
        promise18End();
        promise18EndBetweenMilliseconds();
        promise18CueAtTheEnd();
        promise18Refused();
        promise19Stop();
        promise20Numbers();
        promise20Loud();
        promise20NextTimes();
        promise18AllAtOnce();
        greatest();
        Check.close();
    }

    private static void promise17Start() {
        starts(0, 0, 100, 1600000);
        starts(0, 2, 100, 2600000);
        starts(0, 0, 200, 800000);
        starts(0, 0, 50, 3200000);
        starts(0, 1, 150, 1400000);
        starts(0, 0, 199, 804020);
        starts(1, 0, 100, 500000);
        starts(1, 8, 50, 9000000);
        starts(1, 1, 151, 662251);
    }

    private static void starts(int bar, int countIn, int speed, long due) {
        TempoPlayer player = Pieces.of(USUAL);
        Check.same("start(" + bar + ", " + countIn + ", " + speed + ")", due, player.start(bar, countIn, speed));
        Check.same("the clock", 0, player.playing(0));
        Check.same("the played end", due, player.playing(1));
        Check.same("something is played", 1, player.count(9));
        for (int what = 4; what <= 6; what++) {
            Check.same("nothing is heard", 0, player.playing(what));
        }
    }

    private static void promise17Refused() {
        TempoPlayer player = new TempoPlayer();
        Check.refused("start without bars", player, Pieces.INDEX, () -> player.start(0, 9, 100));
        player.addBar(1, 1);
        int[][] wrong = {{-1, 100}, {9, 100}, {0, 49}, {0, 201}, {0, Integer.MIN_VALUE}, {Integer.MAX_VALUE, 100}};
        for (int[] pair : wrong) {
            Check.refused("start(0, " + pair[0] + ", " + pair[1] + ")", player, Pieces.ARGUMENT,
                () -> player.start(0, pair[0], pair[1]));
        }
        Check.refused("bar 1", player, Pieces.INDEX, () -> player.start(1, 0, 100));
        Check.refused("bar -1", player, Pieces.INDEX, () -> player.start(-1, 9, 0));
        player.start(0, 0, 100);
        Check.refused("start while playing", player, Pieces.STATE, () -> player.start(0, 0, 100));
        Check.refused("start while playing, wrong", player, Pieces.ARGUMENT, () -> player.start(0, 0, 49));
        Check.refused("start while playing, bar 1", player, Pieces.INDEX, () -> player.start(1, 0, 49));
    }

    private static void promise18Clicks() {
        TempoPlayer player = Pieces.of(USUAL);
        player.start(0, 0, 100);
        Check.same("to 1", 1, player.advance(1));
        Check.same("to 250, the click there not yet", 0, player.advance(249));
        Check.same("to 251", 1, player.advance(1));
        Check.same("to 751", 2, player.advance(500));
        Check.same("the clock", 751000, player.playing(0));
        Check.same("to 1599", 1, player.advance(848));
        Check.same("clicks", 5, player.playing(4));
    }

    private static void promise18CountIn() {
        TempoPlayer player = Pieces.of(USUAL);
        player.start(0, 3, 150);
        Check.same("first", 0, player.playing(2));
        Check.same("to 333", 1, player.advance(333));
        Check.same("second", 333333, player.playing(2));
        Check.same("to 334", 1, player.advance(1));
        Check.same("third", 666666, player.playing(2));
        Check.same("to 667", 1, player.advance(333));
        Check.same("the piece", 1000000, player.playing(2));
        Check.same("to 1000", 0, player.advance(333));
        Check.same("to 1167", 2, player.advance(167));
        Check.same("the beat at 500 ms", 1333333, player.playing(2));
        TempoPlayer other = Pieces.of("1r900;3d1r1000");
        other.mark(2, 600, false);
        Check.same("the count-in is as long as the first beat of the bar", 1400000, other.start(1, 2, 100));
        Check.same("to 201", 2, other.advance(201));
        Check.same("the first beat", 400000, other.playing(2));
    }

    private static void promise18Cues() {
        TempoPlayer player = Pieces.of(USUAL);
        player.cue(2, 0, 1000);
        player.cue(0, 240, 0);
        player.cue(1, 0, 5000);
        player.cue(2, 479, 1);
        player.start(0, 0, 100);
        Check.same("a cue is not before 0", 0, player.playing(3));
        Check.same("to 1: click and cue", 2, player.advance(1));
        Check.same("next cue", 100000, player.playing(3));
        Check.same("to 100", 0, player.advance(99));
        Check.same("to 101", 1, player.advance(1));
        Check.same("next cue", 250000, player.playing(3));
        Check.same("to 251: click and cue", 2, player.advance(150));
        Check.same("last cue", 1597958, player.playing(3));
        Check.same("cues", 3, player.playing(6));
        Check.same("to 1598", 4, player.advance(1347));
        Check.same("no cue any more", TempoPlayer.NONE, player.playing(3));
        player.stop();
        player.start(0, 0, 50);
        Check.same("the speed does not change the lead", 0, player.playing(3));
        player.advance(500);
        Check.same("cue at twice its place", 500000, player.playing(3));
        player.advance(1);
        Check.same("cue at twice its place, less its lead", 1200000, player.playing(3));
    }

    private static void promise18CuesOfLaterBars() {
        TempoPlayer player = Pieces.of(USUAL);
        player.cue(1, 479, 0);
        player.cue(2, 0, 0);
        player.cue(2, 240, 0);
        player.start(1, 1, 100);
        Check.same("first cue of the bar", 500000, player.playing(3));
        Check.same("to 751: two clicks and two cues", 4, player.advance(751));
        Check.same("cues", 2, player.playing(6));
        player.stop();
        player.start(0, 0, 100);
        Check.same("from bar 0 there is the earlier one too", 498958 + 500000, player.playing(3));
    }

    private static void promise18End() {
        TempoPlayer player = Pieces.of(USUAL);
        player.start(0, 0, 100);
        player.advance(1599);
        Check.same("still played", 1, player.count(9));
        Check.same("to the end", 0, player.advance(1));
        Check.same("over", 0, player.count(9));
        for (int what = 0; what <= 6; what++) {
            Check.same("playing when it is over", TempoPlayer.NONE, player.playing(what));
        }
        Check.refused("advance", player, Pieces.STATE, () -> player.advance(1));
        Check.refused("stop", player, Pieces.STATE, player::stop);
        Check.same("it can be changed", 2, player.addBar(1, 1));
        player.start(0, 0, 100);
        Check.same("all of it at once", 6, player.advance(60000));
        Check.same("over", 0, player.count(9));
    }

    private static void promise18EndBetweenMilliseconds() {
        TempoPlayer player = Pieces.of(USUAL);
        player.start(0, 0, 199);
        player.advance(804);
        Check.same("at 804000 of 804020", 1, player.count(9));
        player.advance(1);
        Check.same("at 805000 of 804020", 0, player.count(9));
    }

    /** Rounded down, the last cue and the end of the piece are at the same time. */
    private static void promise18CueAtTheEnd() {
        TempoPlayer player = Pieces.of("12r100");
        player.mark(0, 200, false);
        player.mark(11, 4000, false);
        player.cue(11, 479, 0);
        Check.same("the end", 54524, player.start(0, 1, 200));
        Check.same("the cue", 54524, player.playing(3));
        Check.same("to 54", 12, player.advance(54));
        Check.same("still played", 1, player.count(9));
        Check.same("to 55: the last click and the cue", 2, player.advance(1));
        Check.same("over", 0, player.count(9));
    }

    private static void promise18Refused() {
        TempoPlayer player = Pieces.of(USUAL);
        int[] wrong = {0, -1, 60001, Integer.MIN_VALUE, Integer.MAX_VALUE};
        for (int milliseconds : wrong) {
            Check.refused("advance(" + milliseconds + ")", player, Pieces.ARGUMENT, () -> player.advance(milliseconds));
        }
        Check.refused("advance", player, Pieces.STATE, () -> player.advance(1));
        player.start(0, 0, 100);
        for (int milliseconds : wrong) {
            Check.refused("advance(" + milliseconds + ")", player, Pieces.ARGUMENT, () -> player.advance(milliseconds));
        }
        Check.same("the clock", 0, player.playing(0));
    }

    private static void promise19Stop() {
        TempoPlayer player = Pieces.of(USUAL);
        Check.refused("stop", player, Pieces.STATE, player::stop);
        player.start(0, 0, 100);
        Check.same("stop at once", 0, player.stop());
        Check.refused("stop again", player, Pieces.STATE, player::stop);
        player.start(0, 4, 100);
        player.advance(7);
        player.advance(600);
        Check.same("stop", 607000, player.stop());
        Check.same("nothing is played", 0, player.count(9));
        Check.same("the clock", TempoPlayer.NONE, player.playing(0));
        player.start(0, 0, 100);
        Check.same("the clock is 0 again", 0, player.playing(0));
        Check.same("all is heard again", 5, player.advance(1200));
        Check.same("clicks", 5, player.playing(4));
    }

    private static void promise20Numbers() {
        TempoPlayer player = Pieces.of(USUAL);
        player.cue(1, 0, 0);
        for (int what = 0; what <= 6; what++) {
            Check.same("playing of nothing", TempoPlayer.NONE, player.playing(what));
        }
        player.start(0, 1, 100);
        player.advance(1001);
        long[] due = {1001000, 2100000, 1250000, TempoPlayer.NONE, 4, 1, 1};
        for (int what = 0; what <= 6; what++) {
            Check.same("playing(" + what + ")", due[what], player.playing(what));
        }
        Check.refused("playing(7)", player, Pieces.ARGUMENT, () -> player.playing(7));
        Check.refused("playing(-1)", player, Pieces.ARGUMENT, () -> player.playing(-1));
        player.stop();
        Check.refused("playing(7) of nothing", player, Pieces.ARGUMENT, () -> player.playing(7));
        Check.refused("playing(-1) of nothing", player, Pieces.ARGUMENT, () -> player.playing(-1));
    }

    private static void promise20Loud() {
        TempoPlayer player = Pieces.of("3d4;2d2;1");
        player.setBar(0, 4, 0b101);
        player.setBar(1, 4, 0b10);
        player.setBar(2, 4, 0);
        player.start(0, 8, 100);
        int[] loud = {0, 0, 0, 0, 0, 0, 0, 0, 1, 1, 2, 2, 3, 3};
        for (int half = 0; half < loud.length - 1; half++) {
            player.advance(500);
            Check.same("loud clicks after " + (half + 1) + " beats", loud[half], player.playing(5));
        }
        Check.same("clicks", 8 + 12 + 4, player.playing(4));
        player.stop();
        player.start(1, 0, 100);
        player.advance(1000);
        Check.same("from bar 1", 1, player.playing(5));
    }

    private static void promise20NextTimes() {
        TempoPlayer player = Pieces.of(USUAL);
        player.cue(0, 0, 0);
        player.start(0, 0, 100);
        long[] due = {0, 250000, 500000, 750000, 1100000, TempoPlayer.NONE};
        Check.same("before all", due[0], player.playing(2));
        Check.same("cue at 0", 0, player.playing(3));
        int[] steps = {1, 250, 250, 250, 350};
        for (int step = 0; step < steps.length; step++) {
            player.advance(steps[step]);
            Check.same("next click", due[step + 1], player.playing(2));
            Check.same("no cue", TempoPlayer.NONE, player.playing(3));
        }
        player.stop();
        player.start(0, 0, 100);
        player.advance(250);
        Check.same("a click at the clock is not heard yet", 250000, player.playing(2));
    }

    /** The most clicks and cues that there are, heard by one call. */
    private static void promise18AllAtOnce() {
        TempoPlayer player = new TempoPlayer();
        for (int bar = 0; bar < 24; bar++) {
            player.addBar(12, 8);
            player.setBar(bar, 2, 100);
            player.setBar(bar, 4, 4095);
        }
        for (int cue = 0; cue < 12; cue++) {
            player.cue(24 * cue, 479, 3);
        }
        player.setBar(23, 3, 20000);
        Check.same("the played end", (8 * 8333 + 2400000 + 20000000) / 2, player.start(0, 8, 200));
        Check.same("all clicks and cues", 8 + 24 * 12 * 8 + 12, player.advance(10000));
        Check.same("clicks", 8 + 24 * 12 * 8, player.playing(4));
        Check.same("loud", 24 * 12, player.playing(5));
        Check.same("cues", 12, player.playing(6));
        Check.same("no click any more", TempoPlayer.NONE, player.playing(2));
        Check.same("no cue any more", TempoPlayer.NONE, player.playing(3));
        Check.same("nothing more to hear", 0, player.advance(1233));
        player.stop();
        player.start(0, 8, 200);
        Check.same("up to the end and over it", 8 + 24 * 12 * 8 + 12, player.advance(60000));
    }

    /** The longest piece that there is, with all of its clicks. */
    private static void greatest() {
        TempoPlayer player = new TempoPlayer();
        for (int bar = 0; bar < 24; bar++) {
            player.addBar(12, 8);
            player.setBar(bar, 2, 60000);
            player.setBar(bar, 3, 20000);
        }
        Check.same("the end", 1920000000L, player.count(5));
        Check.same("the played end", 3920000000L, player.start(0, 8, 50));
        long heard = 0;
        for (int step = 0; step < 65; step++) {
            heard += player.advance(60000);
        }
        Check.same("the clock", 3900000000L, player.playing(0));
        Check.same("clicks", 8 + 24 * 12 * 8, heard);
        Check.same("clicks", 8 + 24 * 12 * 8, player.playing(4));
        Check.same("loud", 24, player.playing(5));
        player.advance(20000);
        Check.same("over", 0, player.count(9));
    }
}
