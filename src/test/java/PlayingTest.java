/** Playing, and promises 17 to 20. The usual piece has clicks at 0, 250, 500, 750 and 1100 ms, and ends at 1600 ms. */
public final class PlayingTest {
    private static final String USUAL = "2d2p100;1";

    public static void main(String[] args) {
        startsAndSpeeds();
        playedTimes();
        countIn();
        clicksOfTheBeats();
        cues();
        cuesBeforeNothing();
        playedEnd();
        theClock();
        heard();
        over();
        noChanges();
        allAtOnce();
        promise17();
        promise17Refused();
        promise18();
        promise18Refused();
        promise19();
        promise20();
        promise20NextTimes();
        promise20Heard();
        Doc.close(PlayingTest.class);
    }

    private static TempoPlayer usual() {
        return Pieces.of(USUAL);
    }

    private static TempoPlayer started(String text, int bar, int countIn, int speed) {
        TempoPlayer player = Pieces.of(text);
        player.start(bar, countIn, speed);
        return player;
    }

    /** The next click's time after each step. */
    private static void nextClicks(TempoPlayer player, int[] steps, long... due) {
        for (int step = 0; step < due.length; step++) {
            if (step > 0) {
                player.advance(steps[step - 1]);
            }
            Check.same("next click after " + step + " steps", due[step], player.playing(2));
        }
    }

    private static void startsAndSpeeds() {
        Doc.says("Playing", "Playing starts at a bar, with a count-in of 0 to 8 beats, and a speed of 50 to 200 percent.");
        new Trial(PlayingTest::usual, "start", 0, 0, 50).answers(3200000);
        new Trial(PlayingTest::usual, "start", 0, 8, 50).answers(11200000);
        new Trial(PlayingTest::usual, "start", 0, 0, 200).answers(800000);
        new Trial(PlayingTest::usual, "start", 0, 8, 200).answers(2800000);
        new Trial(PlayingTest::usual, "start", 1, 8, 50).answers(9000000);
        new Trial(PlayingTest::usual, "start", 1, 0, 200).answers(250000);
        new Trial(PlayingTest::usual, "start", 1, 1, 51).answers(1960784);
        new Trial(PlayingTest::usual, "start", 1, 7, 199).answers(2010050);
        Trial start = new Trial(Pieces::full, "start", 23, 8, 200);
        start.range(0, 0, 23, Pieces.INDEX);
        start.range(1, 0, 8, Pieces.ARGUMENT);
        start.range(2, 50, 200, Pieces.ARGUMENT);
    }

    private static void playedTimes() {
        Doc.says("Playing", "the played time of a time T of the piece (S or later) is (c * L + T - S) * 100 / speed, where c is the "
            + "count-in");
        TempoPlayer player = started(USUAL, 0, 0, 150);
        nextClicks(player, new int[] {1, 166, 167, 200}, 0, 166666, 333333, 500000, 733333);
        Check.same("the end", 1066666, player.playing(1));
        TempoPlayer later = started(USUAL, 1, 1, 151);
        nextClicks(later, new int[] {1}, 0, 331125);
        Check.same("the sum is divided, not its parts", 662251, later.playing(1));
        TempoPlayer slow = started("1;1r60000p20000", 1, 8, 50);
        Check.same("the end of a long bar", 1120000000, slow.playing(1));
        Check.same("a click late in it", 120000000L * 8, clickAfter(slow, 15, 1));
        TempoPlayer greatest = Pieces.longest();
        Check.same("the greatest played end", 4800000000L, greatest.start(0, 8, 50));
        Check.same("the same while it plays", 4800000000L, greatest.playing(1));
        Check.same("the greatest played time of a click", 960000000L + 2 * 1840000000L + 105000000L,
            clickAfter(greatest, 78, 50001));
    }

    private static long clickAfter(TempoPlayer player, int minutes, int milliseconds) {
        for (int minute = 0; minute < minutes; minute++) {
            player.advance(60000);
        }
        player.advance(milliseconds);
        return player.playing(2);
    }

    private static void countIn() {
        Doc.says("Playing", "the clicks of the count-in are at k * L * 100 / speed, for k from 0 to c - 1");
        TempoPlayer player = started(USUAL, 0, 3, 150);
        nextClicks(player, new int[] {333, 1, 332, 1}, 0, 333333, 666666, 666666, 1000000);
        TempoPlayer none = started(USUAL, 0, 0, 100);
        Check.same("without a count-in", 3, none.advance(501));
        Check.same("the first one is loud", 1, none.playing(5));
        TempoPlayer one = started(USUAL, 0, 1, 100);
        Check.same("with one beat", 3, one.advance(751));
        Check.same("the second one is loud", 1, one.playing(5));
        TempoPlayer eight = started(USUAL, 0, 8, 100);
        Check.same("with eight", 8, eight.advance(4000));
        Check.same("none of them is loud", 0, eight.playing(5));
        Check.same("the first beat", 4000000, eight.playing(2));
        TempoPlayer other = Pieces.of("1r900;3d1r1000");
        other.mark(2, 600, false);
        Check.same("as long as the first beat of the bar", 1400000, other.start(1, 2, 100));
        nextClicks(other, new int[] {1, 200, 200, 200}, 0, 200000, 400000, 600000, 1000000);
    }

    private static void clicksOfTheBeats() {
        Doc.says("Playing", "The clicks of all beats from the bar on are played at their played times.");
        TempoPlayer player = started(USUAL, 0, 0, 100);
        nextClicks(player, new int[] {1, 250, 250, 250, 350}, 0, 250000, 500000, 750000, 1100000, -1);
        Check.same("all of them", 5, player.playing(4));
        TempoPlayer last = started(USUAL, 1, 0, 100);
        nextClicks(last, new int[] {1}, 0, -1);
        Check.same("the last bar's alone", 1, last.playing(4));
        TempoPlayer middle = started("2;3;4", 1, 0, 50);
        Check.same("those of two bars", 7, middle.advance(6001));
        TempoPlayer rubber = started("1d3r100p1;2d2r101", 0, 0, 100);
        nextClicks(rubber, new int[] {1, 33, 33, 35, 25, 25, 25}, 0, 33333, 66666, 101000, 126250, 151500, 176750, -1);
    }

    private static void cues() {
        Doc.says("Playing", "A cue whose beat is one of these is given at the played time of its place");
        TempoPlayer player = usual();
        player.cue(1, 479, 0);
        player.cue(2, 0, 0);
        player.cue(2, 240, 0);
        player.start(1, 1, 100);
        Check.same("the first cue of bar 1", 500000, player.playing(3));
        Check.same("two clicks and two cues", 4, player.advance(751));
        Check.same("cues", 2, player.playing(6));
        player.stop();
        player.start(0, 0, 150);
        Check.same("from bar 0 the earlier one too", 665972, player.playing(3));
        Check.same("five clicks and three cues", 8, player.advance(1000));
        TempoPlayer late = Pieces.longest();
        late.cue(23, 479, 5000);
        late.start(0, 8, 50);
        Check.same("the latest cue of all", 960000000L + 2 * 1899875000L - 5000000, late.playing(3));
        clickAfter(late, 79, 14750);
        Check.same("not heard up to it", 0, late.playing(6));
        late.advance(1);
        Check.same("heard over it", 1, late.playing(6));

        Doc.says("Playing", "minus its lead (which the speed does not change)");
        int[] speeds = {50, 100, 200};
        long[] due = {2200000 - 301000, 1100000 - 301000, 550000 - 301000};
        for (int index = 0; index < 3; index++) {
            TempoPlayer lead = usual();
            lead.cue(2, 0, 301);
            lead.start(0, 0, speeds[index]);
            Check.same("at " + speeds[index] + " percent", due[index], lead.playing(3));
            lead.stop();
            lead.start(0, 1, speeds[index]);
            Check.same("with a count-in too", due[index] + 50000000 / speeds[index], lead.playing(3));
        }
    }

    private static void cuesBeforeNothing() {
        Doc.says("Playing", "but not before 0");
        int[] leads = {0, 499, 500, 501, 5000};
        long[] due = {500000, 1000, 0, 0, 0};
        for (int index = 0; index < leads.length; index++) {
            TempoPlayer player = usual();
            player.cue(1, 0, leads[index]);
            player.start(0, 0, 100);
            Check.same("lead " + leads[index], due[index], player.playing(3));
            player.advance(1);
            Check.same("heard at once with lead " + leads[index], due[index] == 0 ? 1 : 0, player.playing(6));
            player.stop();
            player.start(0, 8, 200);
            Check.same("lead " + leads[index] + " in the count-in", Math.max(0, 2250000 - 1000L * leads[index]), player.playing(3));
        }
    }

    private static void playedEnd() {
        Doc.says("Playing", "The played end is the played time of the end of the piece.");
        new Trial(() -> Pieces.of("1"), "start", 0, 0, 100).answers(500000);
        new Trial(() -> Pieces.of("1p20000"), "start", 0, 0, 100).answers(20500000);
        new Trial(() -> Pieces.of("1p20000"), "start", 0, 1, 199).answers(10552763);
        new Trial(() -> Pieces.of("1p20000;1;1p1"), "start", 1, 0, 200).answers(500500);
        new Trial(() -> Pieces.of("12r100"), "start", 0, 0, 200).answers(50000);
    }

    private static void theClock() {
        Doc.says("Playing", "Playing has a clock (in microseconds, as all times), at first 0.");
        TempoPlayer player = started(USUAL, 0, 8, 50);
        Check.same("at first", 0, player.playing(0));
        player.advance(1);
        Check.same("after a millisecond", 1000, player.playing(0));
        player.advance(11198);
        Check.same("the speed does not change it", 11199000, player.playing(0));
        Check.same("nor the count-in the clock that stop tells", 11199000, player.stop());
        TempoPlayer longest = Pieces.longest();
        longest.start(0, 8, 50);
        for (int minute = 0; minute < 79; minute++) {
            longest.advance(60000);
        }
        Check.same("the greatest at a minute", 4740000000L, longest.playing(0));
    }

    private static void heard() {
        Doc.says("Playing", "all clicks and cues are heard whose times are at least the clock before and less than the clock after");
        TempoPlayer player = usual();
        player.cue(0, 240, 0);
        player.cue(0, 0, 0);
        player.start(0, 0, 100);
        Check.same("a click and a cue at 0", 2, player.advance(1));
        Check.same("up to those at 250 ms", 0, player.advance(249));
        Check.same("cues till then", 1, player.playing(6));
        Check.same("the next click is at the clock", 250000, player.playing(2));
        Check.same("the next cue is at the clock", 250000, player.playing(3));
        Check.same("and over them", 2, player.advance(1));
        Check.same("not twice", 0, player.advance(1));
        Check.same("clicks", 2, player.playing(4));
        Check.same("cues", 2, player.playing(6));
        Check.same("from 252 to 1100", 2, player.advance(848));
        Check.same("to 1101", 1, player.advance(1));
        TempoPlayer third = started("1d3;1", 0, 0, 100);
        Check.same("up to 166", 1, third.advance(166));
        Check.same("over 166.666", 1, third.advance(1));
        TempoPlayer pause = started("1p20000;1", 0, 0, 100);
        Check.same("the first bar", 1, pause.advance(500));
        Check.same("its pause", 0, pause.advance(20000));
        Check.same("the next bar", 1, pause.advance(1));
    }

    private static void over() {
        Doc.says("Playing", "If the clock after is at least the played end, playing is over: nothing is played then.");
        TempoPlayer player = started(USUAL, 0, 0, 100);
        player.advance(1599);
        Check.same("a millisecond before the end", 1, player.count(9));
        Check.same("its end", 1600000, player.playing(1));
        Check.same("to the end", 0, player.advance(1));
        Check.same("over", 0, player.count(9));
        for (int what = 0; what <= 6; what++) {
            Check.same("playing(" + what + ") when it is over", TempoPlayer.NONE, player.playing(what));
        }
        Check.refused("advance", player, Pieces.STATE, () -> player.advance(1));
        Check.refused("stop", player, Pieces.STATE, player::stop);
        Check.same("it can be changed", 2, player.addBar(1, 1));
        player.start(0, 0, 100);
        Check.same("all of it at once, and over the end", 6, player.advance(60000));
        Check.same("over again", 0, player.count(9));
        TempoPlayer between = started(USUAL, 0, 0, 199);
        between.advance(804);
        Check.same("at 804000 of 804020", 1, between.count(9));
        between.advance(1);
        Check.same("at 805000 of 804020", 0, between.count(9));
        cueAtTheEnd();
    }

    /** Rounded down, the last cue and the end of the piece are at the same time. */
    private static void cueAtTheEnd() {
        TempoPlayer player = Pieces.of("12r100");
        player.mark(0, 200, false);
        player.mark(11, 4000, false);
        player.cue(11, 479, 0);
        Check.same("the end", 54524, player.start(0, 1, 200));
        Check.same("the cue", 54524, player.playing(3));
        Check.same("to 54", 12, player.advance(54));
        Check.same("still played", 1, player.count(9));
        Check.same("to 55: the last click and the cue", 2, player.advance(1));
        Check.same("over", 0, player.count(9));
    }

    private static void noChanges() {
        Doc.says("Playing", "While something is played, the piece cannot be changed.");
        for (Trial change : Trial.changes(PlayingTest::playingWithAText)) {
            change.refused(Pieces.STATE);
            TempoPlayer stopped = playingWithAText();
            stopped.stop();
            Check.isTrue(change.name() + " after stop", Check.thrownBy(() -> change.on(stopped)) == null);
        }
        new Trial(PlayingTest::playingWithAText, "undo").refused(Pieces.STATE);
        TempoPlayer player = Pieces.playing();
        player.keep(0);
        player.clearInput();
        player.append('1');
        player.ifMark(0, 0, 200);
        Check.same("playing goes on", 700000, player.playing(0));
    }

    private static TempoPlayer playingWithAText() {
        TempoPlayer player = Pieces.playing();
        player.append('4');
        return player;
    }

    /** The most clicks and cues that there are, heard by one call. */
    private static void allAtOnce() {
        Doc.says("Playing", "all clicks and cues are heard");
        TempoPlayer player = new TempoPlayer();
        for (int bar = 0; bar < 24; bar++) {
            player.addBar(12, 8);
            player.setBar(bar, 2, 100);
            player.setBar(bar, 4, 4095);
        }
        for (int cue = 0; cue < 12; cue++) {
            player.cue(24 * cue, 479, 3);
        }
        player.setBar(23, 3, 20000);
        Check.same("the played end", (8 * 8333 + 2400000 + 20000000) / 2, player.start(0, 8, 200));
        Check.same("all of them", 8 + 24 * 12 * 8 + 12, player.advance(10000));
        Check.same("clicks", 8 + 24 * 12 * 8, player.playing(4));
        Check.same("loud", 24 * 12, player.playing(5));
        Check.same("cues", 12, player.playing(6));
        Check.same("no click any more", TempoPlayer.NONE, player.playing(2));
        Check.same("no cue any more", TempoPlayer.NONE, player.playing(3));
        Check.same("nothing more to hear", 0, player.advance(1233));
        player.stop();
        player.start(0, 8, 200);
        Check.same("up to the end and over it", 8 + 24 * 12 * 8 + 12, player.advance(60000));
    }

    private static void promise17() {
        Trial start = new Trial(Pieces::rich, "start", 1, 2, 150);
        Doc.says(17, "Starts playing; the clock is 0.");
        TempoPlayer player = usual();
        player.cue(0, 120, 0);
        player.cue(2, 0, 0);
        int[] stopped = {1, 251, 700, 1599};
        for (int milliseconds : stopped) {
            player.start(0, 0, 100);
            player.advance(milliseconds);
            player.stop();
            player.start(0, 0, 100);
            long[] due = {0, 1600000, 0, 125000, 0, 0, 0};
            for (int what = 0; what <= 6; what++) {
                Check.same("playing(" + what + ") again after " + milliseconds, due[what], player.playing(what));
            }
            Check.same("something is played", 1, player.count(9));
            Check.same("all is heard again", 7, player.advance(1599));
            Check.same("clicks", 5, player.playing(4));
            Check.same("loud ones", 2, player.playing(5));
            Check.same("cues", 2, player.playing(6));
            player.advance(1);
            player.start(0, 1, 100);
            player.advance(milliseconds);
            player.stop();
        }
        Check.same("it is no change", 3, player.count(10));

        Doc.says(17, "`bar`: the bar");
        start.range(0, 0, 2, Pieces.INDEX);

        Doc.says(17, "`countIn`: 0 to 8 beats");
        start.range(1, 0, 8, Pieces.ARGUMENT);

        Doc.says(17, "`speed`: 50 to 200 percent");
        start.range(2, 50, 200, Pieces.ARGUMENT);

        Doc.says(17, "Returns the played end.");
        Trial usual = new Trial(PlayingTest::usual, "start", 0, 0, 100);
        usual.answers(1600000);
        usual.answers(0, 1, 500000);
        usual.answers(1, 2, 2600000);
        usual.answers(1, 8, 5600000);
        usual.answers(2, 199, 804020);
        usual.answers(2, 51, 3137254);
    }

    private static void promise17Refused() {
        Trial start = new Trial(Pieces::rich, "start", 1, 2, 150);
        Doc.says(17, "Throws `IndexOutOfBoundsException` if the bar does not exist");
        new Trial(TempoPlayer::new, "start", 0, 0, 100).refused(Pieces.INDEX);
        start.refuses(0, Pieces.INDEX, -1, 3, Integer.MIN_VALUE, Integer.MAX_VALUE);

        Doc.says(17, "Throws `IllegalArgumentException` if countIn or speed is out of range");
        start.refuses(1, Pieces.ARGUMENT, -1, 9, Integer.MIN_VALUE, Integer.MAX_VALUE);
        start.refuses(2, Pieces.ARGUMENT, 49, 201, 0, Integer.MIN_VALUE, Integer.MAX_VALUE);

        Doc.says(17, "Throws `IllegalStateException` if something is played");
        new Trial(Pieces::playing, "start", 1, 2, 150).refused(Pieces.STATE);
        new Trial(Pieces::fullPlaying, "start", 0, 0, 50).refused(Pieces.STATE);
    }

    private static void promise18() {
        Doc.says(18, "Advances the clock.");
        TempoPlayer player = started(USUAL, 0, 8, 50);
        int[] steps = {1, 2, 997, 1, 10000};
        long clock = 0;
        for (int step : steps) {
            player.advance(step);
            clock += 1000 * step;
            Check.same("the clock", clock, player.playing(0));
        }

        Doc.says(18, "`milliseconds`: 1 to 60000");
        new Trial(Pieces::playing, "advance", 2).range(0, 1, 60000, Pieces.ARGUMENT);
        TempoPlayer minutes = started("1r60000p20000", 0, 0, 100);
        minutes.advance(60000);
        Check.same("a minute", 60000000, minutes.playing(0));
        minutes.advance(19999);
        Check.same("still played", 79999000, minutes.playing(0));

        Doc.says(18, "Returns how many clicks (also of the count-in) and cues are heard in that.");
        TempoPlayer counted = usual();
        counted.cue(0, 0, 5000);
        counted.cue(1, 0, 0);
        counted.start(0, 2, 100);
        Check.same("nothing but the first click and a cue", 2, counted.advance(500));
        Check.same("the second click of the count-in", 1, counted.advance(1));
        Check.same("nothing", 0, counted.advance(499));
        Check.same("two clicks, then a click and a cue", 4, counted.advance(501));
        Check.same("the last two, and over the end", 2, counted.advance(60000));
    }

    private static void promise18Refused() {
        Doc.says(18, "Throws `IllegalArgumentException` if milliseconds is out of range");
        Trial advance = new Trial(Pieces::playing, "advance", 1);
        advance.refuses(0, Pieces.ARGUMENT, 0, 60001, -1, Integer.MIN_VALUE, Integer.MAX_VALUE);
        new Trial(Pieces::rich, "advance", 0).refused(Pieces.ARGUMENT);

        Doc.says(18, "Throws `IllegalStateException` if nothing is played");
        new Trial(TempoPlayer::new, "advance", 1).refused(Pieces.STATE);
        new Trial(Pieces::rich, "advance", 60000).refused(Pieces.STATE);
        TempoPlayer stopped = Pieces.playing();
        stopped.stop();
        Check.refused("advance after stop", stopped, Pieces.STATE, () -> stopped.advance(1));
        TempoPlayer over = Pieces.playing();
        over.advance(60000);
        Check.refused("advance after the end", over, Pieces.STATE, () -> over.advance(1));
    }

    private static void promise19() {
        Doc.says(19, "Stops playing.");
        TempoPlayer player = Pieces.playing();
        player.stop();
        Check.same("nothing is played", 0, player.count(9));
        for (int what = 0; what <= 6; what++) {
            Check.same("playing(" + what + ")", TempoPlayer.NONE, player.playing(what));
        }
        Check.same("it can be changed", 3, player.begin());

        Doc.says(19, "Returns the clock.");
        new Trial(() -> started(USUAL, 0, 4, 100), "stop").answers(0);
        new Trial(Pieces::playing, "stop").answers(700000);
        TempoPlayer steps = started(USUAL, 0, 4, 100);
        steps.advance(7);
        steps.advance(600);
        Check.same("stop", 607000, steps.stop());
        TempoPlayer longest = Pieces.longest();
        longest.start(0, 8, 50);
        for (int minute = 0; minute < 79; minute++) {
            longest.advance(60000);
        }
        longest.advance(59999);
        Check.same("the greatest", 4799999000L, longest.stop());

        Doc.says(19, "Throws `IllegalStateException` if nothing is played");
        new Trial(TempoPlayer::new, "stop").refused(Pieces.STATE);
        new Trial(Pieces::rich, "stop").refused(Pieces.STATE);
        Check.refused("stop again", steps, Pieces.STATE, steps::stop);
        TempoPlayer over = Pieces.playing();
        over.advance(60000);
        Check.refused("stop after the end", over, Pieces.STATE, over::stop);
    }

    private static void promise20() {
        Doc.says(20, "Returns a number of what is played.");
        TempoPlayer player = usual();
        player.cue(1, 0, 0);
        player.start(0, 1, 100);
        player.advance(1001);
        long[] due = {1001000, 2100000, 1250000, TempoPlayer.NONE, 4, 1, 1};
        for (int what = 0; what <= 6; what++) {
            Check.same("playing(" + what + ")", due[what], player.playing(what));
        }

        Doc.says(20, "`what`: 0 for the clock, 1 for the played end");
        new Trial(Pieces::playing, "playing", 0).range(0, 0, 6, Pieces.ARGUMENT);
        new Trial(Pieces::rich, "playing", 0).range(0, 0, 6, Pieces.ARGUMENT);

        Doc.says(20, "Returns the number; NONE if nothing is played, or there is no such click or cue.");
        Trial none = new Trial(Pieces::full, "playing", 0);
        for (int what = 0; what <= 6; what++) {
            none.answers(0, what, TempoPlayer.NONE);
        }
        TempoPlayer last = started("1", 0, 0, 100);
        Check.same("no cue at all", TempoPlayer.NONE, last.playing(3));
        last.advance(1);
        Check.same("no click any more", TempoPlayer.NONE, last.playing(2));
        Check.same("but a clock", 1000, last.playing(0));
        TempoPlayer earlier = usual();
        earlier.cue(1, 479, 0);
        earlier.start(1, 8, 100);
        Check.same("no cue of the beats that are played", TempoPlayer.NONE, earlier.playing(3));

        Doc.says(20, "Throws `IllegalArgumentException` if what is not 0 to 6");
        new Trial(TempoPlayer::new, "playing", 0).refuses(0, Pieces.ARGUMENT, -1, 7, Integer.MIN_VALUE, Integer.MAX_VALUE);
        new Trial(Pieces::playing, "playing", 0).refuses(0, Pieces.ARGUMENT, -1, 7, Integer.MIN_VALUE, Integer.MAX_VALUE);
    }

    private static void promise20NextTimes() {
        Doc.says(20, "2 for the least time of a click that has not been heard");
        TempoPlayer player = started(USUAL, 0, 0, 100);
        nextClicks(player, new int[] {250, 1}, 0, 250000, 500000);

        Doc.says(20, "3 for that of a cue that has not been heard");
        TempoPlayer cues = usual();
        cues.cue(2, 0, 1000);
        cues.cue(0, 240, 0);
        cues.cue(1, 0, 5000);
        cues.cue(2, 479, 1);
        cues.start(0, 0, 100);
        int[] steps = {1, 99, 1, 149, 1, 1346, 1};
        long[] due = {0, 100000, 100000, 250000, 250000, 1597958, 1597958, TempoPlayer.NONE};
        for (int step = 0; step < due.length; step++) {
            if (step > 0) {
                cues.advance(steps[step - 1]);
            }
            Check.same("next cue after " + step + " steps", due[step], cues.playing(3));
        }
        TempoPlayer alike = usual();
        alike.cue(1, 0, 0);
        alike.cue(1, 0, 0);
        alike.cue(1, 0, 1);
        alike.start(0, 0, 100);
        Check.same("up to the earliest", 499000, alike.playing(3));
        alike.advance(500);
        Check.same("two at one time", 500000, alike.playing(3));
        Check.same("a click and both of them", 3, alike.advance(1));
        Check.same("none is left", TempoPlayer.NONE, alike.playing(3));
    }

    private static void promise20Heard() {
        Doc.says(20, "4 for the number of clicks heard so far");
        TempoPlayer clicks = started(USUAL, 0, 2, 100);
        int[] due = {1, 2, 4, 6, 7};
        for (int half = 0; half < due.length; half++) {
            clicks.advance(500);
            Check.same("clicks after " + (half + 1) + " halves of a second", due[half], clicks.playing(4));
        }

        Doc.says(20, "5 for that of loud ones (those of the count-in are not loud)");
        TempoPlayer player = Pieces.of("3d4;2d2;1");
        player.setBar(0, 4, 0b101);
        player.setBar(1, 4, 0b10);
        player.setBar(2, 4, 0);
        player.start(0, 8, 100);
        int[] loud = {0, 0, 0, 0, 0, 0, 0, 0, 1, 1, 2, 2, 3};
        for (int half = 0; half < loud.length; half++) {
            player.advance(500);
            Check.same("loud clicks after " + (half + 1) + " beats", loud[half], player.playing(5));
        }
        player.stop();
        player.start(1, 0, 100);
        player.advance(1000);
        Check.same("from bar 1", 1, player.playing(5));
        player.stop();
        player.start(2, 0, 100);
        player.advance(499);
        Check.same("from bar 2", 0, player.playing(5));

        Doc.says(20, "6 for that of cues");
        TempoPlayer cues = usual();
        cues.cue(2, 0, 0);
        cues.cue(0, 0, 0);
        cues.cue(1, 0, 0);
        cues.start(0, 0, 100);
        int[] steps = {1, 499, 1, 599, 1};
        int[] heard = {1, 1, 2, 2, 3};
        for (int step = 0; step < steps.length; step++) {
            cues.advance(steps[step]);
            Check.same("cues after " + (step + 1) + " steps", heard[step], cues.playing(6));
        }
    }
}
