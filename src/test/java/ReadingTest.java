/** Promises 21 to 27: what there is. */
public final class ReadingTest {
    public static void main(String[] args) {
        promise21();
        promise22();
        promise22Refused();
        promise23();
        promise24();
        promise25();
        promise25Refused();
        promise26();
        promise26Ends();
        promise27();
        promise27Sums();
        promise27Others();
        Doc.close(ReadingTest.class);
    }

    private static void promise21() {
        Trial bar = new Trial(Pieces::rich, "bar", 1, 0);
        Doc.says(21, "Returns a property of a bar.");
        TempoPlayer player = Pieces.of("3d2r900p7;12;1p1");
        Check.sameText("bar 0", "3 2 900 7 1 0", Pieces.barOf(player, 0));
        Check.sameText("bar 1", "12 1 0 0 1 3", Pieces.barOf(player, 1));
        Check.sameText("bar 2", "1 1 0 1 1 15", Pieces.barOf(player, 2));
        player.start(0, 0, 100);
        Check.sameText("while playing", "12 1 0 0 1 3", Pieces.barOf(player, 1));

        Doc.says(21, "`bar`: the bar");
        bar.range(0, 0, 2, Pieces.INDEX);
        new Trial(Pieces::full, "bar", 1, 0).range(0, 0, 23, Pieces.INDEX);

        Doc.says(21, "`what`: 0 to 4 as for setBar, 5 for the number of its first beat");
        bar.range(1, 0, 5, Pieces.ARGUMENT);
        bar.answers(1, 5, 3);
        new Trial(Pieces::full, "bar", 0, 5).answers(0);
        new Trial(Pieces::full, "bar", 23, 5).answers(276);

        Doc.says(21, "Returns the property.");
        new Trial(Pieces::full, "bar", 23, 0).answers(12);
        new Trial(Pieces::full, "bar", 23, 1).answers(8);
        new Trial(() -> Pieces.of("1r60000p20000"), "bar", 0, 2).answers(60000);
        new Trial(() -> Pieces.of("1r60000p20000"), "bar", 0, 3).answers(20000);
        new Trial(() -> Pieces.of("1"), "bar", 0, 2).answers(0);
        new Trial(() -> Pieces.of("1"), "bar", 0, 3).answers(0);

        Doc.says(21, "Throws `IndexOutOfBoundsException` if the bar does not exist");
        new Trial(TempoPlayer::new, "bar", 0, 0).refused(Pieces.INDEX);
        bar.refuses(0, Pieces.INDEX, -1, 3, Integer.MIN_VALUE, Integer.MAX_VALUE);

        Doc.says(21, "Throws `IllegalArgumentException` if what is not 0 to 5");
        bar.refuses(1, Pieces.ARGUMENT, -1, 6, Integer.MIN_VALUE, Integer.MAX_VALUE);
    }

    private static void promise22() {
        Trial beat = new Trial(Pieces::rich, "beat", 1, 0);
        Doc.says(22, "Returns a property of a beat.");
        TempoPlayer player = Pieces.of("2p100;3");
        player.setBar(1, 4, 0b110);
        player.mark(3, 700, false);
        Check.sameText("bars", "0 0 1 1 1", Pieces.beatsOf(player, 0));
        Check.sameText("tempos", "1200 1200 1200 700 700", Pieces.beatsOf(player, 2));
        Check.sameText("natural lengths", "500000 500000 500000 857142 857142", Pieces.beatsOf(player, 3));
        Check.sameText("begins", "0 500000 1100000 1600000 2457142", Pieces.beatsOf(player, 4));

        Doc.says(22, "`beat`: the beat");
        beat.range(0, 0, 8, Pieces.INDEX);
        new Trial(Pieces::full, "beat", 1, 0).range(0, 0, 287, Pieces.INDEX);

        Doc.says(22, "`what`: 0 for its bar, 1 for its place in the bar, 2 for its tempo, 3 for its natural length, 4 for the time of its "
            + "beginning, 5 for its length, 6 for 1 if it has an accent, else 0");
        beat.range(1, 0, 6, Pieces.ARGUMENT);
        Check.sameText("places in the bars", "0 1 0 1 2", Pieces.beatsOf(player, 1));
        Check.sameText("accents", "1 0 0 1 1", Pieces.beatsOf(player, 6));
        player.setBar(1, 2, 1000);
        Check.sameText("lengths", "500000 500000 225806 387097 387097", Pieces.beatsOf(player, 5));

        Doc.says(22, "Returns the property.");
        TempoPlayer full = new TempoPlayer();
        for (int bar = 0; bar < 24; bar++) {
            full.addBar(12, 8);
        }
        full.setBar(23, 4, 2048);
        full.mark(0, 200, false);
        long[] due = {23, 11, 200, 3000000, 287 * 3000000L, 3000000, 1};
        for (int what = 0; what <= 6; what++) {
            Check.same("of the last beat, what " + what, due[what], full.beat(287, what));
        }
        Check.same("the last beat but one has no accent", 0, full.beat(286, 6));
    }

    private static void promise22Refused() {
        Trial beat = new Trial(Pieces::rich, "beat", 1, 0);
        Doc.says(22, "Throws `IndexOutOfBoundsException` if the piece does not have the beat");
        new Trial(TempoPlayer::new, "beat", 0, 0).refused(Pieces.INDEX);
        beat.refuses(0, Pieces.INDEX, -1, 9, Integer.MIN_VALUE, Integer.MAX_VALUE);
        new Trial(Pieces::full, "beat", 288, 0).refused(Pieces.INDEX);

        Doc.says(22, "Throws `IllegalArgumentException` if what is not 0 to 6");
        beat.refuses(1, Pieces.ARGUMENT, -1, 7, Integer.MIN_VALUE, Integer.MAX_VALUE);
    }

    private static void promise23() {
        Trial click = new Trial(Pieces::rich, "click", 7, 3);
        Doc.says(23, "Returns the time of a click.");
        TempoPlayer player = Pieces.of("1;2d3p9;1d8");
        long[] due = {500000, 666666, 833333};
        for (int number = 0; number < 3; number++) {
            Check.same("click of beat 1", due[number], player.click(1, number));
        }
        Check.same("click of beat 2", 1333333, player.click(2, 2));
        player.setBar(1, 2, 100);
        Check.same("in a rubber bar", 500000 + 50000 + 33333, player.click(2, 2));

        Doc.says(23, "`beat`: the beat");
        new Trial(Pieces::rich, "click", 7, 0).range(0, 0, 8, Pieces.INDEX);
        new Trial(Pieces::full, "click", 7, 7).range(0, 0, 287, Pieces.INDEX);

        Doc.says(23, "`click`: its number in the beat");
        click.range(1, 0, 7, Pieces.INDEX);
        new Trial(Pieces::rich, "click", 0, 0).range(1, 0, 1, Pieces.INDEX);
        new Trial(Pieces::rich, "click", 3, 0).range(1, 0, 0, Pieces.INDEX);

        Doc.says(23, "Returns the time.");
        new Trial(() -> Pieces.of("1"), "click", 0, 0).answers(0);
        new Trial(() -> Pieces.of("1d8"), "click", 0, 7).answers(437500);
        new Trial(() -> Pieces.of("1r60000p20000;1d8r60000"), "click", 1, 7).answers(80000000 + 52500000);

        Doc.says(23, "Throws `IndexOutOfBoundsException` if the beat or the click does not exist");
        new Trial(TempoPlayer::new, "click", 0, 0).refused(Pieces.INDEX);
        click.refuses(0, Pieces.INDEX, -1, 9, Integer.MIN_VALUE, Integer.MAX_VALUE);
        click.refuses(1, Pieces.INDEX, -1, 8, Integer.MIN_VALUE, Integer.MAX_VALUE);
        new Trial(Pieces::rich, "click", 9, 8).refused(Pieces.INDEX);
        new Trial(Pieces::rich, "click", 0, 7).refused(Pieces.INDEX);
    }

    private static void promise24() {
        Trial tempo = new Trial(Pieces::rich, "tempo", 1, 0);
        Doc.says(24, "Returns a property of a tempo mark.");
        TempoPlayer player = new TempoPlayer();
        player.mark(287, 4000, true);
        player.mark(0, 200, false);
        Check.sameText("marks", "0:200 287:4000g", Pieces.marksOf(player));

        Doc.says(24, "`mark`: its number");
        tempo.range(0, 0, 1, Pieces.INDEX);
        new Trial(Pieces::full, "tempo", 1, 0).range(0, 0, 9, Pieces.INDEX);

        Doc.says(24, "`what`: 0 for its beat, 1 for its tempo, 2 for 1 if it is gradual, else 0");
        tempo.range(1, 0, 2, Pieces.ARGUMENT);

        Doc.says(24, "Returns the property.");
        long[][] due = {{0, 200, 0}, {287, 4000, 1}};
        for (int mark = 0; mark < 2; mark++) {
            for (int what = 0; what < 3; what++) {
                Check.same("tempo(" + mark + ", " + what + ")", due[mark][what], player.tempo(mark, what));
            }
        }

        Doc.says(24, "Throws `IndexOutOfBoundsException` if the mark does not exist");
        new Trial(TempoPlayer::new, "tempo", 0, 0).refused(Pieces.INDEX);
        tempo.refuses(0, Pieces.INDEX, -1, 2, Integer.MIN_VALUE, Integer.MAX_VALUE);
        new Trial(Pieces::full, "tempo", 10, 0).refused(Pieces.INDEX);

        Doc.says(24, "Throws `IllegalArgumentException` if what is not 0 to 2");
        tempo.refuses(1, Pieces.ARGUMENT, -1, 3, Integer.MIN_VALUE, Integer.MAX_VALUE);
    }

    private static void promise25() {
        Trial cueAt = new Trial(Pieces::rich, "cueAt", 1, 0);
        Doc.says(25, "Returns a property of a cue.");
        TempoPlayer player = Pieces.of("1p100;2");
        player.cue(2, 479, 5000);
        player.cue(1, 7, 6);
        long[][] due = {{2, 479, 5000, 1100000 + 498958, 1}, {1, 7, 6, 600000 + 7291, 0}};
        for (int cue = 0; cue < 2; cue++) {
            for (int what = 0; what < 5; what++) {
                Check.same("cueAt(" + cue + ", " + what + ")", due[cue][what], player.cueAt(cue, what));
            }
        }
        player.mark(0, 600, false);
        Check.same("the place follows the tempo", 1100000 + 14583, player.cueAt(1, 3));

        Doc.says(25, "`cue`: its number");
        cueAt.range(0, 0, 2, Pieces.INDEX);
        new Trial(Pieces::full, "cueAt", 1, 0).range(0, 0, 11, Pieces.INDEX);

        Doc.says(25, "`what`: 0 for its beat, 1 for its tick, 2 for its lead, 3 for its place (a time)");
        cueAt.range(1, 0, 4, Pieces.ARGUMENT);

        Doc.says(25, "4 for how many cues have an earlier place, or the same place and a lower number");
        TempoPlayer order = Pieces.of("3;1r100");
        int[][] cues = {{2, 0}, {0, 5}, {2, 0}, {1, 100}, {0, 4}, {2, 0}, {0, 5}, {3, 479}, {3, 0}};
        for (int[] cue : cues) {
            order.cue(cue[0], cue[1], 5000 - 100 * (int) order.count(3));
        }
        int[] places = {4, 1, 5, 3, 0, 6, 2, 8, 7};
        for (int cue = 0; cue < places.length; cue++) {
            Check.same("the order of cue " + cue, places[cue], order.cueAt(cue, 4));
        }
        TempoPlayer rounded = Pieces.of("2;12r100");
        rounded.mark(0, 4000, false);
        rounded.mark(2, 200, false);
        rounded.mark(13, 4000, false);
        rounded.cue(13, 2, 0);
        rounded.cue(13, 1, 0);
        rounded.cue(13, 0, 0);
        Check.same("one place by rounding down", rounded.cueAt(2, 3), rounded.cueAt(1, 3));
        Check.sameText("its order", "2 0 1", rounded.cueAt(0, 4) + " " + rounded.cueAt(1, 4) + " " + rounded.cueAt(2, 4));
        TempoPlayer full = Pieces.full();
        Check.same("the last of 12", 11, full.cueAt(0, 4));
        Check.same("the first of 12", 0, full.cueAt(11, 4));

        Doc.says(25, "Returns the property.");
        new Trial(() -> oneCue("1r60000", 0, 479, 5000), "cueAt", 0, 3).answers(59875000);
        new Trial(() -> oneCue("1r60000", 0, 0, 0), "cueAt", 0, 3).answers(0);
        new Trial(() -> oneCue("1r60000p20000;1r100", 1, 479, 0), "cueAt", 0, 3).answers(80099791);
        new Trial(() -> oneCue("1r60000", 0, 479, 5000), "cueAt", 0, 4).answers(0);
    }

    private static TempoPlayer oneCue(String text, int beat, int tick, int lead) {
        TempoPlayer player = Pieces.of(text);
        player.cue(beat, tick, lead);
        return player;
    }

    private static void promise25Refused() {
        Trial cueAt = new Trial(Pieces::rich, "cueAt", 1, 0);
        Doc.says(25, "Throws `IndexOutOfBoundsException` if the cue does not exist");
        new Trial(TempoPlayer::new, "cueAt", 0, 0).refused(Pieces.INDEX);
        cueAt.refuses(0, Pieces.INDEX, -1, 3, Integer.MIN_VALUE, Integer.MAX_VALUE);
        new Trial(Pieces::full, "cueAt", 12, 0).refused(Pieces.INDEX);

        Doc.says(25, "Throws `IllegalArgumentException` if what is not 0 to 4");
        cueAt.refuses(1, Pieces.ARGUMENT, -1, 5, Integer.MIN_VALUE, Integer.MAX_VALUE);
    }

    private static void looksUp(TempoPlayer player, long time, int beat, int tick, int pause) {
        Check.same("at(" + time + ", 0)", beat, player.at(time, 0));
        Check.same("at(" + time + ", 1)", tick, player.at(time, 1));
        Check.same("at(" + time + ", 2)", pause, player.at(time, 2));
    }

    private static void promise26() {
        Doc.says(26, "Reads a place back from a time.");
        TempoPlayer player = Pieces.of("3");
        looksUp(player, 250000, 0, 240, 0);
        looksUp(player, 500001, 1, 0, 0);
        looksUp(player, 1250000, 2, 240, 0);

        Doc.says(26, "`what`: 0 for the beat that begins at this time or has begun before, as the latest one of those");
        looksUp(player, 0, 0, 0, 0);
        looksUp(player, 499999, 0, 479, 0);
        looksUp(player, 500000, 1, 0, 0);
        looksUp(player, 999999, 1, 479, 0);
        looksUp(player, 1000000, 2, 0, 0);

        Doc.says(26, "1 for the tick in it, (time minus its beginning) * 480 / its length, at most 480");
        looksUp(player, 1041, 0, 0, 0);
        looksUp(player, 1042, 0, 1, 0);
        looksUp(player, 2083, 0, 1, 0);
        looksUp(player, 2084, 0, 2, 0);
        looksUp(player, 1499999, 2, 479, 0);
        TempoPlayer pauses = Pieces.of("2p1000;1p1");
        looksUp(pauses, 999999, 1, 479, 0);
        looksUp(pauses, 1000000, 1, 480, 1);
        looksUp(pauses, 1001042, 1, 480, 1);
        looksUp(pauses, 1999999, 1, 480, 1);
        looksUp(pauses, 2000000, 2, 0, 0);
        TempoPlayer longest = Pieces.of("1r60000p20000;1r100p20000");
        looksUp(longest, 59999999, 0, 479, 0);
        looksUp(longest, 124999, 0, 0, 0);
        looksUp(longest, 125000, 0, 1, 0);
        looksUp(longest, 79999999, 0, 480, 1);
        looksUp(longest, 80000209, 1, 1, 0);
        looksUp(longest, 100099999, 1, 480, 1);

        Doc.says(26, "2 for 1 if the time is in the pause after this beat, else 0");
        looksUp(pauses, 2499999, 2, 479, 0);
        looksUp(pauses, 2500000, 2, 480, 1);
        looksUp(pauses, 2500999, 2, 480, 1);
        looksUp(longest, 60000000, 0, 480, 1);
        looksUp(longest, 80000000, 1, 0, 0);
    }

    private static void promise26Ends() {
        Doc.says(26, "`time`: the time");
        Trial at = new Trial(() -> Pieces.of("3"), "at", 0, 0);
        at.takes(0, 0, -1, 1499999, 1500000, Long.MIN_VALUE, Long.MAX_VALUE);
        at.answers(0, 1499999, 2);

        Doc.says(26, "Returns the number; NONE if time is negative, or not less than the end of the piece.");
        long[] none = {-1, 1500000, 1500001, Integer.MIN_VALUE, Integer.MAX_VALUE, Long.MIN_VALUE, Long.MAX_VALUE, 1L << 32,
            (1L << 32) + 500000, Long.MIN_VALUE + 500000, -500000};
        for (long time : none) {
            looksUp(Pieces.of("3"), time, -1, -1, -1);
        }
        looksUp(Pieces.of("1p1"), 500999, 0, 480, 1);
        looksUp(Pieces.of("1p1"), 501000, -1, -1, -1);
        long[] empty = {-1, 0, 1, Long.MIN_VALUE, Long.MAX_VALUE};
        for (long time : empty) {
            looksUp(new TempoPlayer(), time, -1, -1, -1);
        }

        Doc.says(26, "Throws `IllegalArgumentException` if what is not 0 to 2");
        new Trial(Pieces::rich, "at", 0, 0).range(1, 0, 2, Pieces.ARGUMENT);
        new Trial(TempoPlayer::new, "at", 0, 3).refused(Pieces.ARGUMENT);
        new Trial(Pieces::rich, "at", -1, 3).refused(Pieces.ARGUMENT);
        new Trial(Pieces::rich, "at", Long.MAX_VALUE, -1).refused(Pieces.ARGUMENT);
    }

    private static void promise27() {
        Doc.says(27, "Returns a number.");
        TempoPlayer player = Pieces.of("3d2r900p7;4d3;2p20");
        player.mark(250, 600, true);
        player.cue(8, 0, 0);
        player.cue(0, 0, 0);
        player.keep(1);
        player.start(2, 0, 100);
        long[] due = {3, 9, 1, 2, 6 + 12 + 2, 900000 + 7000 + 2000000 + 1000000 + 20000, 27000, 900000, 3000000, 1, 4, 2};
        for (int what = 0; what < due.length; what++) {
            Check.same("count(" + what + ")", due[what], player.count(what));
        }

        Doc.says(27, "`what`: 0 for the number of bars, 1 for that of beats, 2 for that of marks, 3 for that of cues, 4 for that of "
            + "clicks of the piece");
        Trial empty = new Trial(TempoPlayer::new, "count", 0);
        Trial full = new Trial(Pieces::full, "count", 0);
        long[] most = {24, 288, 10, 12, 2304};
        for (int what = 0; what <= 4; what++) {
            empty.answers(0, what, 0);
            full.answers(0, what, most[what]);
        }
        full.range(0, 0, 11, Pieces.ARGUMENT);

        Doc.says(27, "Returns the number.");
        TempoPlayer greatest = new TempoPlayer();
        for (int bar = 0; bar < 24; bar++) {
            greatest.addBar(12, 8);
            greatest.setBar(bar, 3, 20000);
        }
        greatest.mark(0, 200, false);
        Check.same("the end", 288 * 3000000L + 480000000, greatest.count(5));
        Check.same("the pauses", 480000000, greatest.count(6));
        Check.same("no rubber bars", 0, greatest.count(7));
        Check.same("the other beats", 288 * 3000000L, greatest.count(8));

        Doc.says(27, "Throws `IllegalArgumentException` if what is not 0 to 11");
        new Trial(TempoPlayer::new, "count", 0).refuses(0, Pieces.ARGUMENT, -1, 12, Integer.MIN_VALUE, Integer.MAX_VALUE);
        new Trial(Pieces::playing, "count", 0).refuses(0, Pieces.ARGUMENT, -1, 12, Integer.MIN_VALUE, Integer.MAX_VALUE);
    }

    private static void promise27Sums() {
        Doc.says(27, "5 for the end of the piece, 6 for the sum of all pauses (in microseconds), 7 for the sum of the lengths of all "
            + "beats of rubber bars, 8 for that of all other beats");
        TempoPlayer player = Pieces.of("7r777p1;11;5r100p20000");
        player.mark(3, 3333, true);
        player.mark(17, 301, false);
        Check.same("pauses", 20001000, player.count(6));
        Check.same("rubber bars", 877000, player.count(7));
        long others = 0;
        for (int beat = 7; beat < 18; beat++) {
            others += player.beat(beat, 3);
        }
        Check.same("other bars", others, player.count(8));
        Check.same("the end", 877000 + others + 20001000, player.count(5));
        player.begin();
        for (int what = 4; what <= 8; what++) {
            Check.same("count of nothing", 0, player.count(what));
        }
        TempoPlayer rubber = new TempoPlayer();
        for (int bar = 0; bar < 24; bar++) {
            rubber.addBar(12, 1);
            rubber.setBar(bar, 2, 60000);
        }
        Check.same("the most of rubber bars", 1440000000, rubber.count(7));
        Check.same("no others", 0, rubber.count(8));
    }

    private static void promise27Others() {
        Doc.says(27, "9 for 1 if something is played, else 0; 10 for the number of states in the history, 11 for the images that keep "
            + "something, as a bit mask");
        new Trial(TempoPlayer::new, "count", 9).answers(0);
        new Trial(Pieces::playing, "count", 9).answers(1);
        new Trial(Pieces::rich, "count", 9).answers(0);
        TempoPlayer over = Pieces.playing();
        over.advance(60000);
        Check.same("over", 0, over.count(9));
        new Trial(TempoPlayer::new, "count", 10).answers(0);
        new Trial(() -> Pieces.bars(8), "count", 10).answers(8);
        new Trial(() -> Pieces.bars(9), "count", 10).answers(8);
        int[][] kept = {{}, {0}, {1}, {1, 0}, {0, 0}};
        int[] due = {0, 1, 2, 3, 1};
        for (int index = 0; index < kept.length; index++) {
            TempoPlayer images = new TempoPlayer();
            for (int image : kept[index]) {
                images.keep(image);
            }
            Check.same("images", due[index], images.count(11));
            images.begin();
            Check.same("images after begin", due[index], images.count(11));
        }
    }
}
