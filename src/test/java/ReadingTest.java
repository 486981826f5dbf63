/** Promises 21 to 27: what there is. */
public final class ReadingTest {
    public static void main(String[] args) {
        promise21Bar();
        promise22Beat();
        promise22Tempo();
        promise22GradualDown();
        promise22Rubber();
        promise22Refused();
        promise23Click();
        promise24Tempo();
        promise25CueAt();
        promise25Order();
        promise26At();
        promise26Pauses();
        promise26Refused();
        promise27Count();
        promise27Sums();
        Check.close();
    }

    private static void promise21Bar() {
        TempoPlayer player = Pieces.of("3d2r900p7;12;1p1");
        Check.sameText("bar 0", "3 2 900 7 1 0", Pieces.barOf(player, 0));
        Check.sameText("bar 1", "12 1 0 0 1 3", Pieces.barOf(player, 1));
        Check.sameText("bar 2", "1 1 0 1 1 15", Pieces.barOf(player, 2));
        Check.refused("bar 3", player, Pieces.INDEX, () -> player.bar(3, 6));
        Check.refused("bar -1", player, Pieces.INDEX, () -> player.bar(-1, 0));
        Check.refused("what 6", player, Pieces.ARGUMENT, () -> player.bar(0, 6));
        Check.refused("what -1", player, Pieces.ARGUMENT, () -> player.bar(0, -1));
        player.start(0, 0, 100);
        Check.same("while playing", 12, player.bar(1, 0));
    }

    private static void promise22Beat() {
        TempoPlayer player = Pieces.of("2p100;3");
        player.setBar(1, 4, 0b110);
        player.mark(3, 700, false);
        Check.sameText("bars", "0 0 1 1 1", Pieces.beatsOf(player, 0));
        Check.sameText("places", "0 1 0 1 2", Pieces.beatsOf(player, 1));
        Check.sameText("tempos", "1200 1200 1200 700 700", Pieces.beatsOf(player, 2));
        Check.sameText("natural lengths", "500000 500000 500000 857142 857142", Pieces.beatsOf(player, 3));
        Check.sameText("begins", "0 500000 1100000 1600000 2457142", Pieces.beatsOf(player, 4));
        Check.sameText("lengths", "500000 500000 500000 857142 857142", Pieces.beatsOf(player, 5));
        Check.sameText("accents", "1 0 0 1 1", Pieces.beatsOf(player, 6));
    }

    private static void promise22Tempo() {
        TempoPlayer player = Pieces.of("12");
        player.mark(2, 600, true);
        player.mark(5, 1000, true);
        player.mark(7, 2000, false);
        player.mark(9, 300, true);
        Check.sameText("the last gradual mark holds",
            "1200 1200 600 733 866 1000 1500 2000 2000 300 300 300", Pieces.beatsOf(player, 2));
        player.mark(13, 301, false);
        player.mark(7, 2000, true);
        Check.sameText("a mark behind the piece counts",
            "1200 1200 600 733 866 1000 1500 2000 1150 300 300 300", Pieces.beatsOf(player, 2));
        player.mark(13, 4000, false);
        Check.sameText("a mark behind the piece counts",
            "1200 1200 600 733 866 1000 1500 2000 1150 300 1225 2150", Pieces.beatsOf(player, 2));
        player.mark(0, 4000, false);
        Check.same("a mark at beat 0", 4000, player.beat(0, 2));
        Check.same("it holds", 4000, player.beat(1, 2));
    }

    private static void promise22GradualDown() {
        TempoPlayer player = Pieces.of("7");
        player.mark(0, 1000, true);
        player.mark(4, 997, false);
        Check.sameText("cut towards 0", "1000 1000 999 998 997 997 997", Pieces.beatsOf(player, 2));
        TempoPlayer far = Pieces.of("3");
        far.mark(0, 4000, true);
        far.mark(287, 200, true);
        Check.sameText("far", "4000 3987 3974", Pieces.beatsOf(far, 2));
    }

    private static void promise22Rubber() {
        TempoPlayer player = Pieces.of("2;3r1000p50;1");
        player.mark(3, 700, false);
        Check.sameText("natural lengths", "500000 500000 500000 857142 857142 857142", Pieces.beatsOf(player, 3));
        Check.sameText("begins", "0 500000 1000000 1225806 1612903 2050000", Pieces.beatsOf(player, 4));
        Check.sameText("lengths", "500000 500000 225806 387097 387097 857142", Pieces.beatsOf(player, 5));
        player.setBar(1, 2, 60000);
        Check.sameText("longer", "500000 500000 13548397 23225801 23225802 857142", Pieces.beatsOf(player, 5));
        player.setBar(1, 2, 0);
        Check.sameText("not any more", "500000 500000 500000 857142 857142 857142", Pieces.beatsOf(player, 5));
    }

    private static void promise22Refused() {
        TempoPlayer player = Pieces.of("2;3");
        Check.refused("beat 5", player, Pieces.INDEX, () -> player.beat(5, 7));
        Check.refused("beat -1", player, Pieces.INDEX, () -> player.beat(-1, 0));
        Check.refused("what 7", player, Pieces.ARGUMENT, () -> player.beat(4, 7));
        Check.refused("what -1", player, Pieces.ARGUMENT, () -> player.beat(0, -1));
        TempoPlayer full = new TempoPlayer();
        for (int bar = 0; bar < 24; bar++) {
            full.addBar(12, 8);
        }
        Check.same("the last beat", 287 * 500000L, full.beat(287, 4));
        Check.same("its last click", 287 * 500000L + 437500, full.click(287, 7));
        Check.refused("beat 288", full, Pieces.INDEX, () -> full.beat(288, 0));
        full.mark(287, 200, true);
        Check.same("the last beat's mark", 3000000, full.beat(287, 5));
        Check.same("a cue there", 0, full.cue(287, 479, 0));
    }

    private static void promise23Click() {
        TempoPlayer player = Pieces.of("1;2d3p9;1d8");
        long[] due = {500000, 666666, 833333};
        for (int click = 0; click < 3; click++) {
            Check.same("click of beat 1", due[click], player.click(1, click));
        }
        Check.same("click of beat 2", 1333333, player.click(2, 2));
        Check.same("click of beat 3", 1509000 + 437500, player.click(3, 7));
        Check.refused("click 3", player, Pieces.INDEX, () -> player.click(1, 3));
        Check.refused("click -1", player, Pieces.INDEX, () -> player.click(1, -1));
        Check.refused("click 1 of one", player, Pieces.INDEX, () -> player.click(0, 1));
        Check.refused("click 8", player, Pieces.INDEX, () -> player.click(3, 8));
        Check.refused("beat 4", player, Pieces.INDEX, () -> player.click(4, 0));
        Check.refused("beat -1", player, Pieces.INDEX, () -> player.click(-1, 0));
        player.setBar(1, 2, 100);
        Check.same("in a rubber bar", 500000 + 50000 + 33333, player.click(2, 2));
    }

    private static void promise24Tempo() {
        TempoPlayer player = new TempoPlayer();
        player.mark(200, 300, true);
        player.mark(100, 400, false);
        long[][] due = {{100, 400, 0}, {200, 300, 1}};
        for (int mark = 0; mark < 2; mark++) {
            for (int what = 0; what < 3; what++) {
                Check.same("tempo(" + mark + ", " + what + ")", due[mark][what], player.tempo(mark, what));
            }
        }
        Check.refused("mark 2", player, Pieces.INDEX, () -> player.tempo(2, 3));
        Check.refused("mark -1", player, Pieces.INDEX, () -> player.tempo(-1, 0));
        Check.refused("what 3", player, Pieces.ARGUMENT, () -> player.tempo(0, 3));
        Check.refused("what -1", player, Pieces.ARGUMENT, () -> player.tempo(0, -1));
    }

    private static void promise25CueAt() {
        TempoPlayer player = Pieces.of("1p100;2");
        player.cue(2, 479, 5000);
        player.cue(1, 7, 6);
        long[][] due = {{2, 479, 5000, 1100000 + 498958, 1}, {1, 7, 6, 600000 + 7291, 0}};
        for (int cue = 0; cue < 2; cue++) {
            for (int what = 0; what < 5; what++) {
                Check.same("cueAt(" + cue + ", " + what + ")", due[cue][what], player.cueAt(cue, what));
            }
        }
        Check.refused("cue 2", player, Pieces.INDEX, () -> player.cueAt(2, 5));
        Check.refused("cue -1", player, Pieces.INDEX, () -> player.cueAt(-1, 0));
        Check.refused("what 5", player, Pieces.ARGUMENT, () -> player.cueAt(0, 5));
        Check.refused("what -1", player, Pieces.ARGUMENT, () -> player.cueAt(0, -1));
        player.mark(0, 600, false);
        Check.same("the place follows the tempo", 1100000 + 14583, player.cueAt(1, 3));
    }

    private static void promise25Order() {
        TempoPlayer player = Pieces.of("3");
        int[][] cues = {{2, 0}, {0, 5}, {2, 0}, {1, 100}, {0, 4}, {2, 0}, {0, 5}};
        for (int[] cue : cues) {
            player.cue(cue[0], cue[1], 0);
        }
        int[] due = {4, 1, 5, 3, 0, 6, 2};
        for (int cue = 0; cue < due.length; cue++) {
            Check.same("the order of cue " + cue, due[cue], player.cueAt(cue, 4));
        }
    }

    private static void promise26At() {
        TempoPlayer player = Pieces.of("3");
        looksUp(player, 0, 0, 0, 0);
        looksUp(player, 1041, 0, 0, 0);
        looksUp(player, 1042, 0, 1, 0);
        looksUp(player, 499999, 0, 479, 0);
        looksUp(player, 500000, 1, 0, 0);
        looksUp(player, 1499999, 2, 479, 0);
        looksUp(player, 1500000, -1, -1, -1);
        looksUp(player, -1, -1, -1, -1);
        looksUp(player, Long.MIN_VALUE, -1, -1, -1);
        looksUp(player, Long.MAX_VALUE, -1, -1, -1);
        looksUp(new TempoPlayer(), 0, -1, -1, -1);
    }

    private static void promise26Pauses() {
        TempoPlayer player = Pieces.of("2p1000;1p1");
        looksUp(player, 999999, 1, 479, 0);
        looksUp(player, 1000000, 1, 480, 1);
        looksUp(player, 1999999, 1, 480, 1);
        looksUp(player, 2000000, 2, 0, 0);
        looksUp(player, 2499999, 2, 479, 0);
        looksUp(player, 2500000, 2, 480, 1);
        looksUp(player, 2500999, 2, 480, 1);
        looksUp(player, 2501000, -1, -1, -1);
    }

    private static void looksUp(TempoPlayer player, long time, int beat, int tick, int pause) {
        Check.same("at(" + time + ", 0)", beat, player.at(time, 0));
        Check.same("at(" + time + ", 1)", tick, player.at(time, 1));
        Check.same("at(" + time + ", 2)", pause, player.at(time, 2));
    }

    private static void promise26Refused() {
        TempoPlayer player = Pieces.of("3");
        Check.refused("what 3", player, Pieces.ARGUMENT, () -> player.at(0, 3));
        Check.refused("what -1", player, Pieces.ARGUMENT, () -> player.at(0, -1));
        Check.refused("what 3, no time", player, Pieces.ARGUMENT, () -> player.at(-1, 3));
    }

    private static void promise27Count() {
        TempoPlayer player = Pieces.of("3d2r900p7;4d3;2p20");
        player.mark(250, 600, true);
        player.cue(8, 0, 0);
        player.cue(0, 0, 0);
        player.keep(1);
        player.start(2, 0, 100);
        long[] due = {3, 9, 1, 2, 6 + 12 + 2, 900000 + 7000 + 2000000 + 1000000 + 20000, 27000, 900000, 3000000, 1, 4, 2};
        for (int what = 0; what < due.length; what++) {
            Check.same("count(" + what + ")", due[what], player.count(what));
        }
        player.stop();
        Check.same("nothing is played", 0, player.count(9));
        player.keep(0);
        Check.same("both images", 3, player.count(11));
        Check.refused("count(12)", player, Pieces.ARGUMENT, () -> player.count(12));
        Check.refused("count(-1)", player, Pieces.ARGUMENT, () -> player.count(-1));
    }

    private static void promise27Sums() {
        TempoPlayer player = Pieces.of("7r777p1;11;5r100p20000");
        player.mark(3, 3333, true);
        player.mark(17, 301, false);
        Check.same("rubber bars", 877000, player.count(7));
        long others = 0;
        for (int beat = 7; beat < 18; beat++) {
            others += player.beat(beat, 3);
        }
        Check.same("other bars", others, player.count(8));
        Check.same("the end", 877000 + others + 20001000, player.count(5));
        player.begin();
        for (int what = 4; what <= 8; what++) {
            Check.same("count of nothing", 0, player.count(what));
        }
    }
}
