/** Promises 1 to 10: a new object and the changes of a piece. */
public final class PieceTest {
    public static void main(String[] args) {
        promise1NewObject();
        promise2Begin();
        promise3AddBar();
        promise4SetBar();
        promise4Ranges();
        promise4Accents();
        promise5RemoveBar();
        promise6Mark();
        promise6Limits();
        promise7RemoveMark();
        promise8Cue();
        promise8Limits();
        promise9RemoveCue();
        lostCues();
        promise10Load();
        promise10Refused();
        whilePlaying();
        Check.close();
    }

    private static void promise1NewObject() {
        TempoPlayer player = new TempoPlayer();
        for (int what = 0; what <= 11; what++) {
            Check.same("count of a new object", 0, player.count(what));
        }
        for (int what = 0; what <= 6; what++) {
            Check.same("playing of a new object", TempoPlayer.NONE, player.playing(what));
        }
        Check.same("firstError of an empty buffer", 0, player.firstError());
        Check.same("clearInput of an empty buffer", 0, player.clearInput());
        Check.sameDouble("meanTempo without bars", 0.0, player.meanTempo());
        Check.refused("undo", player, Pieces.STATE, player::undo);
        Check.refused("back(0)", player, Pieces.STATE, () -> player.back(0));
        Check.refused("back(1)", player, Pieces.STATE, () -> player.back(1));
        Check.refused("stop", player, Pieces.STATE, player::stop);
    }

    private static void promise2Begin() {
        TempoPlayer player = Pieces.of("3;2");
        player.mark(0, 1000, true);
        player.cue(4, 0, 0);
        Pieces.write(player, "7");
        player.keep(0);
        Check.same("begin", 2, player.begin());
        for (int what = 0; what <= 8; what++) {
            Check.same("count after begin", 0, player.count(what));
        }
        Check.same("begin stays in the history", 4, player.count(10));
        Check.same("begin leaves the images", 1, player.count(11));
        Check.same("begin leaves the buffer", 1, player.clearInput());
        Check.same("begin of nothing", 0, player.begin());
        Check.same("begin of nothing is a change too", 5, player.count(10));
        player.undo();
        player.undo();
        Check.sameText("undone begin", "3 1 0 0 1 0", Pieces.barOf(player, 0));
        Check.sameText("undone begin", "0:1000g", Pieces.marksOf(player));
        Check.sameText("undone begin", "4:0-0", Pieces.cuesOf(player));
    }

    private static void promise3AddBar() {
        TempoPlayer player = new TempoPlayer();
        Check.same("addBar(1, 1)", 0, player.addBar(1, 1));
        Check.same("addBar(12, 8)", 1, player.addBar(12, 8));
        Check.same("addBar(5, 3)", 2, player.addBar(5, 3));
        Check.sameText("bar 0", "1 1 0 0 1 0", Pieces.barOf(player, 0));
        Check.sameText("bar 1", "12 8 0 0 1 1", Pieces.barOf(player, 1));
        Check.sameText("bar 2", "5 3 0 0 1 13", Pieces.barOf(player, 2));
        int[][] wrong = {{0, 1}, {13, 1}, {1, 0}, {1, 9}, {-1, 1}, {1, -1}, {Integer.MAX_VALUE, 1}, {1, Integer.MIN_VALUE}};
        for (int[] pair : wrong) {
            Check.refused("addBar(" + pair[0] + ", " + pair[1] + ")", player, Pieces.ARGUMENT,
                () -> player.addBar(pair[0], pair[1]));
        }
        for (int bar = 3; bar < 24; bar++) {
            Check.same("addBar", bar, player.addBar(2, 2));
        }
        Check.refused("a 25th bar", player, Pieces.STATE, () -> player.addBar(1, 1));
        Check.refused("a 25th bar, wrong", player, Pieces.ARGUMENT, () -> player.addBar(0, 1));
        Check.same("bars", 24, player.count(0));
        Check.same("removeBar", 23, player.removeBar(23));
        Check.same("the 24th bar again", 23, player.addBar(1, 1));
    }

    private static void promise4SetBar() {
        TempoPlayer player = Pieces.of("4;3d2");
        player.mark(4, 600, false);
        player.cue(5, 1, 2);
        Check.same("beats", 4, player.setBar(0, 0, 5));
        Check.same("division", 2, player.setBar(1, 1, 8));
        Check.same("rubber", 0, player.setBar(0, 2, 900));
        Check.same("rubber", 900, player.setBar(0, 2, 0));
        Check.same("pause", 0, player.setBar(1, 3, 20000));
        Check.same("pause", 20000, player.setBar(1, 3, 1));
        Check.same("accents", 1, player.setBar(0, 4, 0));
        Check.same("accents", 0, player.setBar(0, 4, 31));
        Check.sameText("bar 0", "5 1 0 0 31 0", Pieces.barOf(player, 0));
        Check.sameText("bar 1", "3 8 0 1 1 5", Pieces.barOf(player, 1));
        Check.sameText("marks keep their beats", "4:600", Pieces.marksOf(player));
        Check.sameText("cues keep their beats", "5:1-2", Pieces.cuesOf(player));
        player.setBar(1, 1, 8);
        Check.same("a change to the same is recorded", 8, player.count(10));
        player.undo();
        player.undo();
        Check.sameText("undone", "5 1 0 0 0 0", Pieces.barOf(player, 0));
    }

    private static void promise4Ranges() {
        TempoPlayer player = Pieces.of("4;3d2");
        int[][] wrong = {{0, 0}, {0, 13}, {0, -1}, {1, 0}, {1, 9}, {2, -1}, {2, 1}, {2, 99}, {2, 60001}, {3, -1},
            {3, 20001}, {4, -1}, {4, 4096}, {4, Integer.MIN_VALUE}, {3, Integer.MAX_VALUE}};
        for (int[] pair : wrong) {
            Check.refused("setBar(0, " + pair[0] + ", " + pair[1] + ")", player, Pieces.ARGUMENT,
                () -> player.setBar(0, pair[0], pair[1]));
        }
        int[][] right = {{0, 1}, {0, 12}, {1, 1}, {1, 8}, {2, 100}, {2, 60000}, {2, 0}, {3, 1}, {3, 20000}, {3, 0},
            {4, 1}, {4, 4095}, {4, 0}};
        for (int[] pair : right) {
            player.setBar(1, pair[0], pair[1]);
            Check.same("set " + pair[0], pair[1], player.bar(1, pair[0]));
        }
        Check.refused("bar 2", player, Pieces.INDEX, () -> player.setBar(2, 0, 99));
        Check.refused("bar -1", player, Pieces.INDEX, () -> player.setBar(-1, 0, 1));
        Check.refused("what 5", player, Pieces.INDEX, () -> player.setBar(0, 5, -7));
        Check.refused("what -1", player, Pieces.INDEX, () -> player.setBar(0, -1, 0));
        Check.sameText("bar 0", "4 1 0 0 1 0", Pieces.barOf(player, 0));
    }

    private static void promise4Accents() {
        TempoPlayer player = Pieces.of("3");
        Check.same("accents", 1, player.setBar(0, 4, 4095));
        Check.same("only bits of its beats", 7, player.bar(0, 4));
        player.setBar(0, 0, 12);
        Check.same("more beats", 7, player.bar(0, 4));
        player.setBar(0, 4, 0b100000000110);
        player.setBar(0, 0, 2);
        Check.same("fewer beats", 2, player.bar(0, 4));
        player.setBar(0, 0, 12);
        Check.same("more beats again", 2, player.bar(0, 4));
        player.undo();
        player.undo();
        Check.same("undone", 0b100000000110, player.bar(0, 4));
    }

    private static void promise5RemoveBar() {
        TempoPlayer player = Pieces.of("1;2d2;3r300;4p4");
        player.mark(9, 600, false);
        Check.same("removeBar(1)", 3, player.removeBar(1));
        Check.sameText("bar 0", "1 1 0 0 1 0", Pieces.barOf(player, 0));
        Check.sameText("bar 1", "3 1 300 0 1 1", Pieces.barOf(player, 1));
        Check.sameText("bar 2", "4 1 0 4 1 4", Pieces.barOf(player, 2));
        Check.sameText("marks stay", "9:600", Pieces.marksOf(player));
        Check.refused("bar 3", player, Pieces.INDEX, () -> player.removeBar(3));
        Check.refused("bar -1", player, Pieces.INDEX, () -> player.removeBar(-1));
        Check.same("the last one", 2, player.removeBar(2));
        Check.same("the first one", 1, player.removeBar(0));
        Check.sameText("bar 0", "3 1 300 0 1 0", Pieces.barOf(player, 0));
        Check.same("all", 0, player.removeBar(0));
        Check.refused("none is left", player, Pieces.INDEX, () -> player.removeBar(0));
        player.undo();
        Check.sameText("undone", "3 1 300 0 1 0", Pieces.barOf(player, 0));
    }

    private static void promise6Mark() {
        TempoPlayer player = new TempoPlayer();
        Check.same("mark", 1, player.mark(5, 600, false));
        Check.same("before it", 2, player.mark(0, 200, true));
        Check.same("behind it", 3, player.mark(287, 4000, true));
        Check.same("between", 4, player.mark(4, 300, false));
        Check.sameText("in order", "0:200g 4:300 5:600 287:4000g", Pieces.marksOf(player));
        Check.same("in place of one", 4, player.mark(4, 301, true));
        Check.same("in place of one", 4, player.mark(287, 3999, false));
        Check.same("in place of one", 4, player.mark(0, 201, false));
        Check.sameText("replaced", "0:201 4:301g 5:600 287:3999", Pieces.marksOf(player));
        player.undo();
        Check.sameText("undone", "0:200g 4:301g 5:600 287:3999", Pieces.marksOf(player));
    }

    private static void promise6Limits() {
        TempoPlayer player = new TempoPlayer();
        int[][] wrong = {{-1, 1200}, {288, 1200}, {0, 199}, {0, 4001}, {Integer.MIN_VALUE, 1200}, {0, Integer.MAX_VALUE}};
        for (int[] pair : wrong) {
            Check.refused("mark(" + pair[0] + ", " + pair[1] + ")", player, Pieces.ARGUMENT,
                () -> player.mark(pair[0], pair[1], true));
        }
        for (int mark = 0; mark < 10; mark++) {
            Check.same("mark", mark + 1, player.mark(9 - mark, 1000 + mark, false));
        }
        Check.refused("an 11th mark", player, Pieces.STATE, () -> player.mark(10, 1200, false));
        Check.refused("an 11th mark, wrong", player, Pieces.ARGUMENT, () -> player.mark(10, 199, false));
        Check.same("in place of one", 10, player.mark(9, 500, true));
        Check.same("in place of one", 10, player.mark(0, 400, true));
        Check.same("the first one", 400, player.tempo(0, 1));
        Check.same("the last one", 500, player.tempo(9, 1));
    }

    private static void promise7RemoveMark() {
        TempoPlayer player = new TempoPlayer();
        player.mark(1, 600, false);
        player.mark(2, 700, true);
        player.mark(3, 800, false);
        Check.refused("mark 3", player, Pieces.INDEX, () -> player.removeMark(3));
        Check.refused("mark -1", player, Pieces.INDEX, () -> player.removeMark(-1));
        Check.same("removeMark(1)", 2, player.removeMark(1));
        Check.sameText("left", "1:600 3:800", Pieces.marksOf(player));
        Check.same("removeMark(0)", 1, player.removeMark(0));
        Check.sameText("left", "3:800", Pieces.marksOf(player));
        Check.same("removeMark(0)", 0, player.removeMark(0));
        Check.refused("none is left", player, Pieces.INDEX, () -> player.removeMark(0));
        player.undo();
        player.undo();
        Check.sameText("undone", "1:600 3:800", Pieces.marksOf(player));
        TempoPlayer timed = Pieces.of("2");
        timed.mark(0, 600, false);
        timed.removeMark(0);
        Check.same("the times follow", 1000000, timed.count(5));
    }

    private static void promise8Cue() {
        TempoPlayer player = Pieces.of("2;2");
        Check.same("cue", 0, player.cue(3, 479, 5000));
        Check.same("cue", 1, player.cue(0, 0, 0));
        Check.same("the same again", 2, player.cue(3, 479, 5000));
        Check.sameText("as they were added", "3:479-5000 0:0-0 3:479-5000", Pieces.cuesOf(player));
        player.undo();
        Check.sameText("undone", "3:479-5000 0:0-0", Pieces.cuesOf(player));
    }

    private static void promise8Limits() {
        TempoPlayer player = Pieces.of("2;2");
        Check.refused("beat 4", player, Pieces.INDEX, () -> player.cue(4, 480, 0));
        Check.refused("beat -1", player, Pieces.INDEX, () -> player.cue(-1, 0, 0));
        Check.refused("tick 480", player, Pieces.ARGUMENT, () -> player.cue(0, 480, 0));
        Check.refused("tick -1", player, Pieces.ARGUMENT, () -> player.cue(0, -1, 0));
        Check.refused("lead 5001", player, Pieces.ARGUMENT, () -> player.cue(0, 0, 5001));
        Check.refused("lead -1", player, Pieces.ARGUMENT, () -> player.cue(0, 0, -1));
        for (int cue = 0; cue < 12; cue++) {
            Check.same("cue", cue, player.cue(cue % 4, cue, cue));
        }
        Check.refused("a 13th cue", player, Pieces.STATE, () -> player.cue(0, 0, 0));
        Check.refused("a 13th cue, wrong", player, Pieces.ARGUMENT, () -> player.cue(0, 480, 0));
        Check.refused("a 13th cue at no beat", player, Pieces.INDEX, () -> player.cue(4, 0, 0));
        Check.same("cues", 12, player.count(3));
    }

    private static void promise9RemoveCue() {
        TempoPlayer player = Pieces.of("4");
        for (int cue = 0; cue < 4; cue++) {
            player.cue(cue, 10 + cue, 20 + cue);
        }
        Check.refused("cue 4", player, Pieces.INDEX, () -> player.removeCue(4));
        Check.refused("cue -1", player, Pieces.INDEX, () -> player.removeCue(-1));
        Check.same("removeCue(1)", 3, player.removeCue(1));
        Check.sameText("left", "0:10-20 2:12-22 3:13-23", Pieces.cuesOf(player));
        Check.same("removeCue(2)", 2, player.removeCue(2));
        Check.same("removeCue(0)", 1, player.removeCue(0));
        Check.sameText("left", "2:12-22", Pieces.cuesOf(player));
        Check.same("removeCue(0)", 0, player.removeCue(0));
        Check.refused("none is left", player, Pieces.INDEX, () -> player.removeCue(0));
        player.undo();
        player.undo();
        Check.sameText("undone", "0:10-20 2:12-22", Pieces.cuesOf(player));
    }

    private static void lostCues() {
        TempoPlayer player = Pieces.of("2;3;1");
        int[] beats = {5, 0, 4, 5, 3, 1};
        for (int beat : beats) {
            player.cue(beat, beat, 0);
        }
        player.setBar(0, 0, 1);
        Check.sameText("one beat fewer", "0:0-0 4:4-0 3:3-0 1:1-0", Pieces.cuesOf(player));
        player.setBar(0, 0, 2);
        Check.sameText("they do not come back", "0:0-0 4:4-0 3:3-0 1:1-0", Pieces.cuesOf(player));
        player.removeBar(0);
        Check.sameText("a bar fewer", "0:0-0 3:3-0 1:1-0", Pieces.cuesOf(player));
        player.undo();
        player.undo();
        player.undo();
        Check.sameText("undone", "5:5-0 0:0-0 4:4-0 5:5-0 3:3-0 1:1-0", Pieces.cuesOf(player));
        Check.same("times undone too", 3000000, player.count(5));
    }

    private static void promise10Load() {
        TempoPlayer player = new TempoPlayer();
        player.addBar(7, 7);
        Pieces.write(player, "3d4r900;12p20000;1d8;12d1r100p1;10r60000");
        Check.same("load", 6, player.load());
        Check.same("the buffer is clear", 0, player.clearInput());
        Check.sameText("bar 1", "3 4 900 0 1 7", Pieces.barOf(player, 1));
        Check.sameText("bar 2", "12 1 0 20000 1 10", Pieces.barOf(player, 2));
        Check.sameText("bar 3", "1 8 0 0 1 22", Pieces.barOf(player, 3));
        Check.sameText("bar 4", "12 1 100 1 1 23", Pieces.barOf(player, 4));
        Check.sameText("bar 5", "10 1 60000 0 1 35", Pieces.barOf(player, 5));
        Check.same("one change", 2, player.count(10));
        Check.same("undone", 1, player.undo());
        Check.same("bars", 1, player.count(0));
        Check.same("the buffer is no part of the state", 0, player.clearInput());
    }

    private static void promise10Refused() {
        String[] texts = {"", "1;", ";1", "0", "13", "1r9", "1r99", "1r99;1", "1d", "1r", "1p", "1d9", "1 ", "1;1x", "1p2d3"};
        for (String text : texts) {
            TempoPlayer player = new TempoPlayer();
            Pieces.write(player, text);
            Check.refused("load of " + text, player, Pieces.ARGUMENT, player::load);
            Check.same("the buffer stays", text.length(), player.clearInput());
        }
        TempoPlayer player = Pieces.bars(22);
        Pieces.write(player, "1;1;1");
        Check.refused("25 bars", player, Pieces.STATE, player::load);
        Pieces.write(player, ";");
        Check.refused("25 bars, not complete", player, Pieces.ARGUMENT, player::load);
        player.clearInput();
        Pieces.write(player, "2;3");
        Check.same("24 bars", 24, player.load());
        Check.sameText("the last bar", "3 1 0 0 1 24", Pieces.barOf(player, 23));
        TempoPlayer many = new TempoPlayer();
        Pieces.write(many, "1;1;1;1;1;1;1;1;1;1;1;1;1;1;1;1;1;1;1;1;1;1;1;1;1;1;1;1;1;12");
        Check.same("no error", 60, many.firstError());
        Check.refused("30 bars", many, Pieces.STATE, many::load);
    }

    private static void whilePlaying() {
        TempoPlayer player = Pieces.of("4;4");
        player.mark(0, 600, false);
        player.cue(0, 0, 0);
        Pieces.write(player, "3");
        player.start(1, 0, 100);
        Check.refused("begin", player, Pieces.STATE, player::begin);
        Check.refused("addBar", player, Pieces.STATE, () -> player.addBar(1, 1));
        Check.refused("addBar, wrong", player, Pieces.ARGUMENT, () -> player.addBar(1, 0));
        Check.refused("setBar", player, Pieces.STATE, () -> player.setBar(0, 0, 2));
        Check.refused("setBar, wrong value", player, Pieces.ARGUMENT, () -> player.setBar(0, 0, 0));
        Check.refused("setBar, no bar", player, Pieces.INDEX, () -> player.setBar(2, 0, 0));
        Check.refused("removeBar", player, Pieces.STATE, () -> player.removeBar(0));
        Check.refused("removeBar, no bar", player, Pieces.INDEX, () -> player.removeBar(2));
        Check.refused("mark", player, Pieces.STATE, () -> player.mark(0, 600, true));
        Check.refused("mark, wrong", player, Pieces.ARGUMENT, () -> player.mark(288, 600, true));
        Check.refused("removeMark", player, Pieces.STATE, () -> player.removeMark(0));
        Check.refused("removeMark, no mark", player, Pieces.INDEX, () -> player.removeMark(1));
        Check.refused("cue", player, Pieces.STATE, () -> player.cue(0, 0, 0));
        Check.refused("cue, wrong", player, Pieces.ARGUMENT, () -> player.cue(0, 0, 5001));
        Check.refused("cue, no beat", player, Pieces.INDEX, () -> player.cue(8, 0, 5001));
        Check.refused("removeCue", player, Pieces.STATE, () -> player.removeCue(0));
        Check.refused("removeCue, no cue", player, Pieces.INDEX, () -> player.removeCue(1));
        Check.refused("load", player, Pieces.STATE, player::load);
        player.append('d');
        Check.refused("load, not complete", player, Pieces.ARGUMENT, player::load);
        Check.same("nothing was recorded", 3, player.count(10));
        player.stop();
        Check.same("and then it goes on", 2, player.begin());
    }
}
