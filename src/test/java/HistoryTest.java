/** Promises 11 to 13: history and images. */
public final class HistoryTest {
    public static void main(String[] args) {
        promise11Undo();
        promise11EightStates();
        promise11WhatIsRecorded();
        promise12Keep();
        promise13Back();
        promise13Refused();
        Check.close();
    }

    private static void promise11Undo() {
        TempoPlayer player = new TempoPlayer();
        Check.refused("undo of nothing", player, Pieces.STATE, player::undo);
        player.addBar(2, 1);
        player.mark(0, 600, false);
        player.cue(1, 240, 7);
        Check.same("undo of cue", 2, player.undo());
        Check.same("cues", 0, player.count(3));
        Check.same("undo of mark", 1, player.undo());
        Check.same("marks", 0, player.count(2));
        Check.same("the times follow", 1000000, player.count(5));
        Check.same("undo of addBar", 0, player.undo());
        Check.same("bars", 0, player.count(0));
        Check.same("beats", 0, player.count(1));
        Check.refused("undo of no more", player, Pieces.STATE, player::undo);
        player.addBar(3, 1);
        player.start(0, 0, 100);
        Check.refused("undo while playing", player, Pieces.STATE, player::undo);
        player.stop();
        Check.same("undo", 0, player.undo());
    }

    private static void promise11EightStates() {
        TempoPlayer player = new TempoPlayer();
        for (int bar = 0; bar < 20; bar++) {
            player.addBar(1 + bar % 12, 1);
            Check.same("states", Math.min(bar + 1, 8), player.count(10));
        }
        for (int left = 7; left >= 0; left--) {
            Check.same("undo", left, player.undo());
            Check.same("bars", 12 + left, player.count(0));
        }
        Check.refused("undo of what was dropped", player, Pieces.STATE, player::undo);
        player.addBar(9, 1);
        player.addBar(8, 1);
        Check.same("undo", 1, player.undo());
        Check.sameText("after a second change", "9 1 0 0 1 78", Pieces.barOf(player, 12));
    }

    private static void promise11WhatIsRecorded() {
        TempoPlayer player = Pieces.of("4");
        player.keep(0);
        player.append('1');
        player.clearInput();
        player.firstError();
        player.start(0, 0, 100);
        player.advance(1);
        player.stop();
        player.digest();
        player.ifMark(0, 0, 600);
        player.bestSpeed(0, 1);
        player.rubberFor(0, 1);
        Check.same("these are no changes", 1, player.count(10));
        player.back(0);
        Check.same("back is one", 2, player.count(10));
        player.undo();
        Check.same("undo is none", 1, player.count(10));
        Check.same("undo leaves the images", 1, player.count(11));
        Pieces.write(player, "3");
        player.undo();
        Check.same("undo leaves the buffer", 1, player.clearInput());
    }

    private static void promise12Keep() {
        TempoPlayer player = new TempoPlayer();
        Check.refused("image 2", player, Pieces.INDEX, () -> player.keep(2));
        Check.refused("image -1", player, Pieces.INDEX, () -> player.keep(-1));
        Check.same("keep of an empty piece", 0, player.keep(1));
        Check.same("images", 2, player.count(11));
        player.addBar(2, 1);
        Check.same("keep", 1, player.keep(0));
        Check.same("images", 3, player.count(11));
        player.addBar(3, 1);
        Check.same("keep in place of it", 2, player.keep(0));
        player.begin();
        Check.same("back", 2, player.back(0));
        Check.same("back to the empty piece", 0, player.back(1));
        player.addBar(1, 1);
        player.start(0, 0, 100);
        Check.same("keep while playing", 1, player.keep(1));
        player.stop();
        player.begin();
        Check.same("back to that", 1, player.back(1));
    }

    private static void promise13Back() {
        TempoPlayer player = Pieces.of("3d2r900p7;4");
        player.setBar(1, 4, 10);
        player.mark(1, 600, true);
        player.mark(200, 700, false);
        player.cue(6, 100, 200);
        player.keep(0);
        long digest = player.digest();
        player.setBar(0, 0, 1);
        player.setBar(1, 4, 0);
        player.removeMark(0);
        player.addBar(12, 8);
        long changed = player.count(5);
        Check.same("back", 2, player.back(0));
        Check.sameText("bar 0", "3 2 900 7 1 0", Pieces.barOf(player, 0));
        Check.sameText("bar 1", "4 1 0 0 10 3", Pieces.barOf(player, 1));
        Check.sameText("marks", "1:600g 200:700", Pieces.marksOf(player));
        Check.sameText("cues", "6:100-200", Pieces.cuesOf(player));
        Check.same("states", 8, player.count(10));
        player.undo();
        Check.same("back undone", changed, player.count(5));
        Check.same("bars", 3, player.count(0));
        player.back(0);
        player.begin();
        Check.same("the image stays", 2, player.back(0));
        Check.sameText("cues", "6:100-200", Pieces.cuesOf(player));
        Check.isTrue("only the history differs", digest != player.digest());
    }

    private static void promise13Refused() {
        TempoPlayer player = Pieces.of("3");
        Check.refused("image 2", player, Pieces.INDEX, () -> player.back(2));
        Check.refused("image -1", player, Pieces.INDEX, () -> player.back(-1));
        player.keep(1);
        Check.refused("an image that keeps nothing", player, Pieces.STATE, () -> player.back(0));
        player.start(0, 0, 100);
        Check.refused("while playing", player, Pieces.STATE, () -> player.back(1));
        Check.refused("while playing, image 2", player, Pieces.INDEX, () -> player.back(2));
        player.stop();
        Check.same("back", 1, player.back(1));
        Check.same("states", 2, player.count(10));
    }
}
