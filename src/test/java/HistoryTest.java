/** History and images, and promises 11 to 13. */
public final class HistoryTest {
    public static void main(String[] args) {
        whatIsRecorded();
        whatIsNotRecorded();
        eightStates();
        theState();
        images();
        promise11();
        promise12();
        promise13();
        promise13Refused();
        Doc.close(HistoryTest.class);
    }

    private static void whatIsRecorded() {
        Doc.says("History and images", "A change is a call of one of the methods from begin() to load() in this document, or of back()");
        for (Trial change : Trial.changes(HistoryTest::ready)) {
            TempoPlayer player = ready();
            long before = player.digest();
            change.on(player);
            Check.same("states after " + change.name(), 8, player.count(10));
            player.clearInput();
            Check.same("undo of " + change.name(), 7, player.undo());
            Pieces.write(player, "3d4");
            Check.same("all as before " + change.name(), before, player.digest());
        }
    }

    /** Seven states, and a whole text in the buffer. */
    private static TempoPlayer ready() {
        TempoPlayer player = Pieces.rich();
        player.append('4');
        return player;
    }

    private static void whatIsNotRecorded() {
        Doc.says("History and images", "that does not throw an exception");
        TempoPlayer player = Pieces.rich();
        player.start(0, 0, 100);
        Check.thrownBy(player::begin);
        Check.thrownBy(() -> player.addBar(1, 1));
        Check.thrownBy(() -> player.setBar(0, 0, 0));
        Check.thrownBy(player::load);
        Check.thrownBy(() -> player.back(1));
        Check.thrownBy(() -> player.back(0));
        player.stop();
        Check.same("states after refused calls", 7, player.count(10));
        player.append('1');
        player.clearInput();
        player.firstError();
        player.keep(0);
        player.start(0, 0, 100);
        player.advance(1);
        player.stop();
        player.digest();
        player.meanTempo();
        player.ifMark(0, 0, 600);
        player.bestSpeed(0, 1);
        player.rubberFor(0, 1);
        Check.same("states after calls that are no changes", 7, player.count(10));
        player.undo();
        Check.same("undo is none either", 6, player.count(10));
    }

    private static void eightStates() {
        Doc.says("History and images", "A history of at most 8 states is kept: each change records the state before it; when one more "
            + "is recorded, the oldest one is dropped.");
        for (int changes = 0; changes <= 20; changes++) {
            TempoPlayer player = Pieces.bars(changes);
            int states = Math.min(changes, 8);
            Check.same("states after " + changes + " changes", states, player.count(10));
            for (int left = states - 1; left >= 0; left--) {
                Check.same("undo", left, player.undo());
                Check.same("bars", changes - states + left, player.count(0));
            }
            Check.refused("undo of what was dropped", player, Pieces.STATE, player::undo);
        }
        TempoPlayer again = Pieces.bars(9);
        again.undo();
        again.undo();
        again.addBar(2, 2);
        again.addBar(3, 3);
        again.addBar(4, 4);
        Check.same("undone ones make room", 8, again.count(10));
        again.undo();
        again.undo();
        Check.sameText("what came after them", "2 2 0 0 1 7", Pieces.barOf(again, 7));
        again.undo();
        Check.same("what was before them", 7, again.count(0));
        for (int left = 4; left >= 0; left--) {
            Check.same("undo", left, again.undo());
        }
        Check.same("the oldest that is left", 2, again.count(0));
        TempoPlayer same = new TempoPlayer();
        for (int change = 1; change <= 12; change++) {
            same.begin();
            Check.same("changes that change nothing", Math.min(change, 8), same.count(10));
        }
    }

    private static void theState() {
        Doc.says("History and images", "The state consists of the bars, the marks and the cues.");
        TempoPlayer player = Pieces.rich();
        player.begin();
        player.keep(0);
        Pieces.write(player, "x");
        player.undo();
        Check.sameText("bars", "3 2 900 7 1 0", Pieces.barOf(player, 0));
        Check.sameText("their accents", "1 10 1", Pieces.barsOf(player, 4));
        Check.sameText("marks", "1:600g 200:4000", Pieces.marksOf(player));
        Check.sameText("cues", "8:100-200 0:479-0 4:1-5000", Pieces.cuesOf(player));
        Check.same("the images are no part of it", 3, player.count(11));
        Check.same("the buffer is no part of it", 3, player.clearInput());
    }

    private static void images() {
        Doc.says("History and images", "There are 2 images, which keep a state each.");
        TempoPlayer player = new TempoPlayer();
        player.addBar(1, 1);
        player.keep(0);
        player.mark(5, 555, true);
        player.cue(0, 5, 6);
        player.keep(1);
        Check.same("both", 3, player.count(11));
        player.back(0);
        Check.same("marks of the first", 0, player.count(2));
        Check.same("cues of the first", 0, player.count(3));
        player.back(1);
        Check.sameText("marks of the second", "5:555g", Pieces.marksOf(player));
        Check.sameText("cues of the second", "0:5-6", Pieces.cuesOf(player));
        new Trial(Pieces::full, "keep", 0).range(0, 0, 1, Pieces.INDEX);
        new Trial(Pieces::full, "back", 0).range(0, 0, 1, Pieces.INDEX);
    }

    private static void promise11() {
        Doc.says(11, "Takes back the latest change that is recorded.");
        TempoPlayer player = new TempoPlayer();
        player.addBar(2, 1);
        player.mark(0, 600, false);
        player.cue(1, 240, 7);
        player.undo();
        Check.same("cues", 0, player.count(3));
        Check.same("marks", 1, player.count(2));
        player.undo();
        Check.same("marks", 0, player.count(2));
        Check.same("the times follow", 1000000, player.count(5));
        player.undo();
        Check.same("bars", 0, player.count(0));
        Check.same("beats", 0, player.count(1));
        Check.same("the end", 0, player.count(5));

        Doc.says(11, "Returns how many states are left in the history.");
        TempoPlayer full = Pieces.full();
        for (int left = 7; left >= 0; left--) {
            Check.same("undo", left, full.undo());
            Check.same("count(10)", left, full.count(10));
        }

        Doc.says(11, "Throws `IllegalStateException` if something is played, or the history is empty");
        Check.refused("undo of no more", full, Pieces.STATE, full::undo);
        new Trial(TempoPlayer::new, "undo").refused(Pieces.STATE);
        new Trial(Pieces::playing, "undo").refused(Pieces.STATE);
        new Trial(Pieces::fullPlaying, "undo").refused(Pieces.STATE);
        TempoPlayer both = Pieces.bars(1);
        both.keep(0);
        both.undo();
        both.addBar(1, 1);
        both.start(0, 0, 100);
        Check.refused("undo while playing", both, Pieces.STATE, both::undo);
        both.stop();
        Check.same("and then", 0, both.undo());
    }

    private static void promise12() {
        Doc.says(12, "Keeps the state in an image, in place of what it kept.");
        TempoPlayer player = new TempoPlayer();
        player.addBar(2, 1);
        player.keep(0);
        player.addBar(3, 1);
        player.keep(0);
        player.begin();
        player.back(0);
        Check.sameText("the later one", "2 3", Pieces.barsOf(player, 0));
        player.begin();
        player.keep(0);
        player.addBar(4, 1);
        player.back(0);
        Check.same("the empty piece is kept too", 0, player.count(0));
        Check.same("and counts as something", 1, player.count(11));
        TempoPlayer playing = Pieces.playing();
        playing.keep(0);
        Check.same("playing goes on", 1, playing.count(9));
        playing.stop();
        playing.begin();
        playing.back(0);
        Check.sameText("what was kept while playing", "3 4 2", Pieces.barsOf(playing, 0));

        Doc.says(12, "`image`: 0 or 1");
        Trial keep = new Trial(Pieces::rich, "keep", 0);
        keep.range(0, 0, 1, Pieces.INDEX);
        TempoPlayer one = new TempoPlayer();
        one.keep(1);
        Check.same("image 1 alone", 2, one.count(11));
        one.keep(0);
        Check.same("both", 3, one.count(11));

        Doc.says(12, "Returns the number of bars.");
        new Trial(TempoPlayer::new, "keep", 1).answers(0);
        keep.answers(3);
        new Trial(Pieces::full, "keep", 1).answers(24);

        Doc.says(12, "Throws `IndexOutOfBoundsException` if there is no such image");
        keep.refuses(0, Pieces.INDEX, -1, 2, Integer.MIN_VALUE, Integer.MAX_VALUE);
        new Trial(Pieces::playing, "keep", 2).refused(Pieces.INDEX);
    }

    private static void promise13() {
        Doc.says(13, "Makes the state that an image keeps the present one; the image stays.");
        TempoPlayer player = Pieces.of("3d2r900p7;4");
        player.setBar(1, 4, 10);
        player.mark(1, 600, true);
        player.mark(200, 700, false);
        player.cue(6, 100, 200);
        player.keep(0);
        String begins = Pieces.beatsOf(player, 4);
        player.setBar(0, 0, 1);
        player.setBar(1, 4, 0);
        player.removeMark(0);
        player.addBar(12, 8);
        long changed = player.count(5);
        player.back(0);
        Check.sameText("bar 0", "3 2 900 7 1 0", Pieces.barOf(player, 0));
        Check.sameText("bar 1", "4 1 0 0 10 3", Pieces.barOf(player, 1));
        Check.sameText("marks", "1:600g 200:700", Pieces.marksOf(player));
        Check.sameText("cues", "6:100-200", Pieces.cuesOf(player));
        Check.sameText("the times follow", begins, Pieces.beatsOf(player, 4));
        Check.same("a change", 8, player.count(10));
        player.undo();
        Check.same("back undone", changed, player.count(5));
        Check.same("bars", 3, player.count(0));
        player.back(0);
        player.setBar(0, 0, 12);
        player.begin();
        Pieces.write(player, "3d");
        Check.same("the image stays", 2, player.back(0));
        Check.same("the buffer too", 2, player.clearInput());
        Check.sameText("bars", "3 4", Pieces.barsOf(player, 0));
        Check.sameText("cues", "6:100-200", Pieces.cuesOf(player));

        Doc.says(13, "`image`: 0 or 1");
        new Trial(Pieces::full, "back", 0).range(0, 0, 1, Pieces.INDEX);

        Doc.says(13, "Returns the number of bars then.");
        new Trial(Pieces::full, "back", 0).answers(0);
        new Trial(Pieces::full, "back", 1).answers(24);
        new Trial(Pieces::rich, "back", 1).answers(3);
    }

    private static void promise13Refused() {
        Doc.says(13, "Throws `IndexOutOfBoundsException` if there is no such image");
        new Trial(Pieces::full, "back", 0).refuses(0, Pieces.INDEX, -1, 2, Integer.MIN_VALUE, Integer.MAX_VALUE);
        new Trial(TempoPlayer::new, "back", 2).refused(Pieces.INDEX);

        Doc.says(13, "Throws `IllegalStateException` if something is played, or the image keeps nothing");
        new Trial(Pieces::rich, "back", 0).refused(Pieces.STATE);
        new Trial(TempoPlayer::new, "back", 0).refused(Pieces.STATE);
        new Trial(TempoPlayer::new, "back", 1).refused(Pieces.STATE);
        new Trial(Pieces::playing, "back", 1).refused(Pieces.STATE);
        new Trial(Pieces::playing, "back", 0).refused(Pieces.STATE);
        TempoPlayer one = new TempoPlayer();
        one.keep(0);
        Check.refused("the other image", one, Pieces.STATE, () -> one.back(1));
    }
}
