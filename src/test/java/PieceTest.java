/** Promises 1 to 10: a new object and the changes of a piece. */
public final class PieceTest {
    public static void main(String[] args) {
        promise1();
        promise2();
        promise3();
        promise3Refused();
        promise4();
        promise4Values();
        promise4Refused();
        promise5();
        promise6();
        promise6Refused();
        promise7();
        promise8();
        promise8Refused();
        promise9();
        promise10();
        promise10Refused();
        Doc.close(PieceTest.class);
    }

    private static void promise1() {
        Doc.says(1, "Creates an empty piece without marks and cues; nothing is played, the buffer is empty, and the images keep "
            + "nothing.");
        Pieces.full();
        TempoPlayer player = new TempoPlayer();
        for (int what = 0; what <= 11; what++) {
            Check.same("count(" + what + ")", 0, player.count(what));
        }
        for (int what = 0; what <= 6; what++) {
            Check.same("playing(" + what + ")", TempoPlayer.NONE, player.playing(what));
        }
        for (int what = 0; what <= 2; what++) {
            Check.same("at(0, " + what + ")", TempoPlayer.NONE, player.at(0, what));
        }
        Check.same("firstError", 0, player.firstError());
        Check.same("clearInput", 0, player.clearInput());
        Check.sameDouble("meanTempo", 0.0, player.meanTempo());
        String[] calls = {"bar", "beat", "click", "tempo", "cueAt"};
        for (String call : calls) {
            new Trial(TempoPlayer::new, call, 0, 0).refused(Pieces.INDEX);
        }
        new Trial(TempoPlayer::new, "undo").refused(Pieces.STATE);
        new Trial(TempoPlayer::new, "back", 0).refused(Pieces.STATE);
        new Trial(TempoPlayer::new, "back", 1).refused(Pieces.STATE);
        new Trial(TempoPlayer::new, "stop").refused(Pieces.STATE);
        new Trial(TempoPlayer::new, "load").refused(Pieces.ARGUMENT);
    }

    private static void promise2() {
        Doc.says(2, "Removes all bars, marks and cues.");
        TempoPlayer player = Pieces.full();
        player.begin();
        for (int what = 0; what <= 8; what++) {
            Check.same("count(" + what + ") after begin", 0, player.count(what));
        }
        Check.same("the history stays", 8, player.count(10));
        Check.same("the images stay", 3, player.count(11));
        Check.same("the buffer stays", 60, player.clearInput());
        Check.same("bars are numbered from 0 again", 0, player.addBar(1, 1));
        Check.same("cues too", 0, player.cue(0, 0, 0));
        Check.same("no mark is left", 1200, player.beat(0, 2));
        player.undo();
        player.undo();
        player.undo();
        Check.same("undone: bars", 24, player.count(0));
        Check.same("undone: marks", 10, player.count(2));
        Check.same("undone: cues", 12, player.count(3));

        Doc.says(2, "Returns how many bars there were.");
        new Trial(TempoPlayer::new, "begin").answers(0);
        new Trial(() -> Pieces.bars(1), "begin").answers(1);
        new Trial(Pieces::full, "begin").answers(24);
        TempoPlayer twice = Pieces.bars(2);
        Check.same("begin", 2, twice.begin());
        Check.same("begin of nothing", 0, twice.begin());
        Check.same("it is recorded all the same", 4, twice.count(10));

        Doc.says(2, "Throws `IllegalStateException` if something is played");
        new Trial(Pieces::playing, "begin").refused(Pieces.STATE);
        TempoPlayer stopped = Pieces.playing();
        stopped.stop();
        Check.same("begin after stop", 3, stopped.begin());
        TempoPlayer over = Pieces.playing();
        over.advance(60000);
        Check.same("begin after the end", 3, over.begin());
    }

    private static void promise3() {
        Trial addBar = new Trial(Pieces::rich, "addBar", 4, 2);
        Doc.says(3, "Adds a bar behind the last one, with an accent on its first beat alone; it is no rubber bar, and has no pause.");
        TempoPlayer player = Pieces.rich();
        player.addBar(12, 8);
        Check.sameText("the new bar", "12 8 0 0 1 9", Pieces.barOf(player, 3));
        Check.sameText("the bar before it", "2 8 0 20 1 7", Pieces.barOf(player, 2));
        Check.same("marks stay", 2, player.count(2));
        Check.same("cues stay", 3, player.count(3));
        Check.same("one change", 8, player.count(10));
        player.undo();
        Check.same("undone", 3, player.count(0));

        Doc.says(3, "`beats`: 1 to 12");
        addBar.range(0, 1, 12, Pieces.ARGUMENT);
        for (int beats = 1; beats <= 12; beats++) {
            TempoPlayer one = new TempoPlayer();
            one.addBar(beats, 1);
            Check.same("beats", beats, one.count(1));
        }

        Doc.says(3, "`division`: 1 to 8");
        addBar.range(1, 1, 8, Pieces.ARGUMENT);
        for (int division = 1; division <= 8; division++) {
            TempoPlayer one = new TempoPlayer();
            one.addBar(12, division);
            Check.same("clicks", 12 * division, one.count(4));
        }

        Doc.says(3, "Returns its number.");
        new Trial(TempoPlayer::new, "addBar", 1, 1).answers(0);
        addBar.answers(3);
        new Trial(() -> Pieces.bars(23), "addBar", 12, 8).answers(23);
    }

    private static void promise3Refused() {
        Doc.says(3, "Throws `IllegalArgumentException` if an argument is out of range");
        Trial addBar = new Trial(Pieces::rich, "addBar", 4, 2);
        addBar.refuses(0, Pieces.ARGUMENT, 0, 13, Integer.MIN_VALUE, Integer.MAX_VALUE);
        addBar.refuses(1, Pieces.ARGUMENT, 0, 9, Integer.MIN_VALUE, Integer.MAX_VALUE);
        new Trial(Pieces::rich, "addBar", 13, 0).refused(Pieces.ARGUMENT);

        Doc.says(3, "Throws `IllegalStateException` if something is played, or there are 24 bars");
        new Trial(Pieces::playing, "addBar", 1, 1).refused(Pieces.STATE);
        new Trial(Pieces::full, "addBar", 1, 1).refused(Pieces.STATE);
        new Trial(() -> Pieces.bars(24), "addBar", 12, 8).refused(Pieces.STATE);
        TempoPlayer player = Pieces.bars(24);
        player.removeBar(0);
        Check.same("when one was removed", 23, player.addBar(12, 8));
        Check.refused("addBar", player, Pieces.STATE, () -> player.addBar(12, 8));
    }

    private static void promise4() {
        Doc.says(4, "Changes a property of a bar.");
        TempoPlayer player = Pieces.of("4;3d2;1");
        player.setBar(1, 0, 5);
        player.setBar(1, 1, 7);
        player.setBar(1, 2, 900);
        player.setBar(1, 3, 800);
        player.setBar(1, 4, 0b10010);
        Check.sameText("the bar", "5 7 900 800 18 4", Pieces.barOf(player, 1));
        Check.sameText("the one before", "4 1 0 0 1 0", Pieces.barOf(player, 0));
        Check.sameText("the one behind", "1 1 0 0 1 9", Pieces.barOf(player, 2));
        Check.same("one change each", 6, player.count(10));
        player.setBar(1, 1, 7);
        Check.same("a change to the same is recorded", 7, player.count(10));
        player.undo();
        player.undo();
        player.undo();
        Check.sameText("undone", "5 7 900 0 1 4", Pieces.barOf(player, 1));

        Doc.says(4, "(Marks and cues keep the numbers of their beats.)");
        TempoPlayer kept = Pieces.rich();
        kept.setBar(0, 0, 4);
        Check.sameText("marks with a beat more", "1:600g 200:4000", Pieces.marksOf(kept));
        Check.sameText("cues with a beat more", "8:100-200 0:479-0 4:1-5000", Pieces.cuesOf(kept));
        kept.setBar(0, 0, 3);
        Check.sameText("cues with a beat fewer", "8:100-200 0:479-0 4:1-5000", Pieces.cuesOf(kept));
        kept.setBar(0, 0, 2);
        Check.sameText("marks with two fewer", "1:600g 200:4000", Pieces.marksOf(kept));
        Check.sameText("cues with two fewer", "0:479-0 4:1-5000", Pieces.cuesOf(kept));

        Doc.says(4, "`bar`: the bar");
        Trial setBar = new Trial(Pieces::rich, "setBar", 1, 1, 3);
        setBar.range(0, 0, 2, Pieces.INDEX);
        new Trial(Pieces::full, "setBar", 1, 1, 3).range(0, 0, 23, Pieces.INDEX);
        new Trial(TempoPlayer::new, "setBar", 0, 1, 3).refused(Pieces.INDEX);
    }

    private static void promise4Values() {
        Doc.says(4, "`what`: 0 for its beats, 1 for its division, 2 for its rubber length (0, or 100 to 60000), 3 for its pause, 4 for "
            + "its accents (0 to 4095; only bits of its beats are kept)");
        new Trial(Pieces::rich, "setBar", 1, 1, 1).range(1, 0, 4, Pieces.INDEX);
        new Trial(Pieces::rich, "setBar", 1, 0, 2).range(2, 1, 12, Pieces.ARGUMENT);
        new Trial(Pieces::rich, "setBar", 1, 1, 2).range(2, 1, 8, Pieces.ARGUMENT);
        Trial rubber = new Trial(Pieces::rich, "setBar", 1, 2, 900);
        rubber.takes(2, 0, 100, 60000);
        rubber.refuses(2, Pieces.ARGUMENT, -1, 1, 50, 99, 60001, -100, 65536, 65636, Integer.MIN_VALUE, Integer.MAX_VALUE);
        new Trial(Pieces::rich, "setBar", 1, 3, 2).range(2, 0, 20000, Pieces.ARGUMENT);
        new Trial(Pieces::rich, "setBar", 1, 4, 2).range(2, 0, 4095, Pieces.ARGUMENT);

        Doc.says(4, "`value`: the new value");
        int[][] values = {{0, 1}, {0, 12}, {1, 1}, {1, 8}, {2, 100}, {2, 60000}, {2, 0}, {3, 1}, {3, 20000}, {3, 0}, {4, 4095},
            {4, 0}, {4, 2048}, {4, 1}};
        TempoPlayer player = Pieces.rich();
        for (int[] pair : values) {
            player.setBar(2, 0, 12);
            player.setBar(2, pair[0], pair[1]);
            Check.same("bar(2, " + pair[0] + ")", pair[1], player.bar(2, pair[0]));
        }
        player.setBar(0, 4, 4095);
        Check.same("accents of 3 beats", 7, player.bar(0, 4));
        player.setBar(0, 4, 4088);
        Check.same("none of its beats'", 0, player.bar(0, 4));

        Doc.says(4, "Returns the previous value.");
        TempoPlayer one = Pieces.of("4d3r100p20000");
        int[][] previous = {{0, 12, 4}, {0, 1, 12}, {1, 8, 3}, {1, 1, 8}, {2, 0, 100}, {2, 60000, 0}, {2, 100, 60000},
            {3, 0, 20000}, {3, 1, 0}, {4, 4095, 1}, {4, 0, 1}, {4, 1, 0}, {0, 2, 1}};
        for (int[] row : previous) {
            Check.same("setBar(0, " + row[0] + ", " + row[1] + ")", row[2], one.setBar(0, row[0], row[1]));
        }
    }

    private static void promise4Refused() {
        Doc.says(4, "Throws `IndexOutOfBoundsException` if the bar does not exist, or what is not 0 to 4");
        Trial setBar = new Trial(Pieces::rich, "setBar", 0, 0, 1);
        setBar.refuses(0, Pieces.INDEX, -1, 3, Integer.MIN_VALUE, Integer.MAX_VALUE);
        setBar.refuses(1, Pieces.INDEX, -1, 5, Integer.MIN_VALUE, Integer.MAX_VALUE);

        Doc.says(4, "Throws `IllegalArgumentException` if value is out of range");
        int[][] wrong = {{0, 0}, {0, 13}, {1, 0}, {1, 9}, {2, 99}, {2, 60001}, {3, -1}, {3, 20001}, {4, -1}, {4, 4096}};
        for (int[] pair : wrong) {
            new Trial(Pieces::rich, "setBar", 0, pair[0], pair[1]).refused(Pieces.ARGUMENT);
        }

        Doc.says(4, "Throws `IllegalStateException` if something is played");
        for (int what = 0; what <= 4; what++) {
            new Trial(Pieces::playing, "setBar", 0, what, what == 2 ? 100 : 1).refused(Pieces.STATE);
        }
    }

    private static void promise5() {
        Doc.says(5, "Removes a bar; the numbers of the later ones decrease by 1.");
        TempoPlayer player = Pieces.of("1;2d2;3r300;4p4");
        player.removeBar(1);
        Check.sameText("bar 0", "1 1 0 0 1 0", Pieces.barOf(player, 0));
        Check.sameText("bar 1", "3 1 300 0 1 1", Pieces.barOf(player, 1));
        Check.sameText("bar 2", "4 1 0 4 1 4", Pieces.barOf(player, 2));
        Check.refused("bar 3", player, Pieces.INDEX, () -> player.bar(3, 0));
        player.removeBar(2);
        player.removeBar(0);
        Check.sameText("bar 0", "3 1 300 0 1 0", Pieces.barOf(player, 0));
        player.removeBar(0);
        Check.same("the end of nothing", 0, player.count(5));
        player.undo();
        Check.sameText("undone", "3 1 300 0 1 0", Pieces.barOf(player, 0));

        Doc.says(5, "(Marks and cues keep the numbers of their beats.)");
        TempoPlayer kept = Pieces.rich();
        kept.removeBar(0);
        Check.sameText("marks", "1:600g 200:4000", Pieces.marksOf(kept));
        Check.sameText("cues of beats that there are", "0:479-0 4:1-5000", Pieces.cuesOf(kept));

        Doc.says(5, "`bar`: the bar");
        new Trial(Pieces::rich, "removeBar", 1).range(0, 0, 2, Pieces.INDEX);
        new Trial(Pieces::full, "removeBar", 1).range(0, 0, 23, Pieces.INDEX);

        Doc.says(5, "Returns how many bars are left.");
        new Trial(Pieces::full, "removeBar", 23).answers(23);
        new Trial(Pieces::rich, "removeBar", 0).answers(2);
        new Trial(() -> Pieces.bars(1), "removeBar", 0).answers(0);

        Doc.says(5, "Throws `IndexOutOfBoundsException` if the bar does not exist");
        new Trial(TempoPlayer::new, "removeBar", 0).refused(Pieces.INDEX);
        new Trial(Pieces::rich, "removeBar", 0).refuses(0, Pieces.INDEX, -1, 3, Integer.MIN_VALUE, Integer.MAX_VALUE);

        Doc.says(5, "Throws `IllegalStateException` if something is played");
        new Trial(Pieces::playing, "removeBar", 0).refused(Pieces.STATE);
        new Trial(Pieces::playing, "removeBar", 2).refused(Pieces.STATE);
    }

    private static void promise6() {
        Trial mark = new Trial(Pieces::rich, "mark", 3, 800, 0);
        Doc.says(6, "Sets a tempo mark, in place of one at the same beat.");
        TempoPlayer player = new TempoPlayer();
        player.mark(5, 600, false);
        player.mark(0, 200, true);
        player.mark(287, 4000, true);
        Check.sameText("three", "0:200g 5:600 287:4000g", Pieces.marksOf(player));
        player.mark(287, 3999, false);
        player.mark(0, 201, false);
        player.mark(5, 601, true);
        Check.sameText("each replaced", "0:201 5:601g 287:3999", Pieces.marksOf(player));
        player.undo();
        Check.sameText("undone", "0:201 5:600 287:3999", Pieces.marksOf(player));

        Doc.says(6, "`beat`: 0 to 287");
        mark.range(0, 0, 287, Pieces.ARGUMENT);

        Doc.says(6, "`tempo`: 200 to 4000");
        mark.range(1, 200, 4000, Pieces.ARGUMENT);

        Doc.says(6, "`gradual`: true if it changes gradually to the next one");
        TempoPlayer gradual = Pieces.of("3");
        gradual.mark(0, 1000, true);
        gradual.mark(2, 2000, false);
        Check.same("gradual", 1, gradual.tempo(0, 2));
        Check.same("half-way", 1500, gradual.beat(1, 2));
        gradual.mark(0, 1000, false);
        Check.same("not gradual", 0, gradual.tempo(0, 2));
        Check.same("no change", 1000, gradual.beat(1, 2));

        Doc.says(6, "Returns how many marks there are then.");
        new Trial(TempoPlayer::new, "mark", 0, 200, 0).answers(1);
        mark.answers(3);
        mark.answers(0, 200, 2);
        new Trial(Pieces::full, "mark", 9, 200, 0).answers(10);
    }

    private static void promise6Refused() {
        Doc.says(6, "Throws `IllegalArgumentException` if an argument is out of range");
        Trial mark = new Trial(Pieces::rich, "mark", 3, 800, 0);
        mark.refuses(0, Pieces.ARGUMENT, -1, 288, Integer.MIN_VALUE, Integer.MAX_VALUE);
        mark.refuses(1, Pieces.ARGUMENT, 199, 4001, Integer.MIN_VALUE, Integer.MAX_VALUE);

        Doc.says(6, "Throws `IllegalStateException` if something is played, or there are 10 marks and none is at this beat");
        new Trial(Pieces::playing, "mark", 3, 800, 0).refused(Pieces.STATE);
        new Trial(Pieces::playing, "mark", 1, 800, 0).refused(Pieces.STATE);
        Trial full = new Trial(Pieces::full, "mark", 3, 800, 0);
        full.refuses(0, Pieces.STATE, 10, 11, 287);
        full.takes(0, 0, 5, 9);
        TempoPlayer player = Pieces.full();
        player.mark(0, 200, false);
        player.mark(9, 300, true);
        Check.same("marks", 10, player.count(2));
        Check.same("the first one", 200, player.tempo(0, 1));
        Check.same("the last one", 300, player.tempo(9, 1));
        player.removeMark(0);
        Check.same("when one was removed", 10, player.mark(287, 800, false));
        Check.refused("where it was", player, Pieces.STATE, () -> player.mark(0, 800, false));
    }

    private static void promise7() {
        Doc.says(7, "Removes a tempo mark.");
        TempoPlayer player = Pieces.of("4");
        player.mark(1, 600, false);
        player.mark(2, 700, true);
        player.mark(3, 800, false);
        player.removeMark(1);
        Check.sameText("left", "1:600 3:800", Pieces.marksOf(player));
        Check.sameText("the tempos follow", "1200 600 600 800", Pieces.beatsOf(player, 2));
        player.removeMark(0);
        Check.sameText("left", "3:800", Pieces.marksOf(player));
        player.removeMark(0);
        Check.same("the times follow", 2000000, player.count(5));
        player.undo();
        player.undo();
        Check.sameText("undone", "1:600 3:800", Pieces.marksOf(player));

        Doc.says(7, "`mark`: its number");
        new Trial(Pieces::rich, "removeMark", 0).range(0, 0, 1, Pieces.INDEX);
        new Trial(Pieces::full, "removeMark", 0).range(0, 0, 9, Pieces.INDEX);

        Doc.says(7, "Returns how many marks are left.");
        new Trial(Pieces::full, "removeMark", 9).answers(9);
        new Trial(Pieces::rich, "removeMark", 0).answers(1);
        TempoPlayer one = new TempoPlayer();
        one.mark(287, 1200, true);
        Check.same("removeMark", 0, one.removeMark(0));

        Doc.says(7, "Throws `IndexOutOfBoundsException` if the mark does not exist");
        Check.refused("no mark is left", one, Pieces.INDEX, () -> one.removeMark(0));
        new Trial(TempoPlayer::new, "removeMark", 0).refused(Pieces.INDEX);
        new Trial(Pieces::rich, "removeMark", 0).refuses(0, Pieces.INDEX, -1, 2, Integer.MIN_VALUE, Integer.MAX_VALUE);

        Doc.says(7, "Throws `IllegalStateException` if something is played");
        new Trial(Pieces::playing, "removeMark", 0).refused(Pieces.STATE);
    }

    private static void promise8() {
        Trial cue = new Trial(Pieces::rich, "cue", 3, 100, 1000);
        Doc.says(8, "Adds a cue.");
        TempoPlayer player = Pieces.of("2;2");
        player.cue(3, 479, 5000);
        player.cue(0, 0, 0);
        player.cue(3, 479, 5000);
        Check.sameText("cues", "3:479-5000 0:0-0 3:479-5000", Pieces.cuesOf(player));
        player.undo();
        Check.sameText("undone", "3:479-5000 0:0-0", Pieces.cuesOf(player));

        Doc.says(8, "`beat`: a beat of the piece");
        cue.range(0, 0, 8, Pieces.INDEX);

        Doc.says(8, "`tick`: 0 to 479");
        cue.range(1, 0, 479, Pieces.ARGUMENT);

        Doc.says(8, "`lead`: 0 to 5000 milliseconds");
        cue.range(2, 0, 5000, Pieces.ARGUMENT);

        Doc.says(8, "Returns its number.");
        new Trial(() -> Pieces.bars(1), "cue", 0, 0, 0).answers(0);
        cue.answers(3);
        TempoPlayer eleven = Pieces.full();
        eleven.removeCue(0);
        Check.same("the 12th", 11, eleven.cue(287, 479, 5000));
    }

    private static void promise8Refused() {
        Doc.says(8, "Throws `IndexOutOfBoundsException` if the piece does not have the beat");
        new Trial(TempoPlayer::new, "cue", 0, 0, 0).refused(Pieces.INDEX);
        new Trial(() -> Pieces.bars(1), "cue", 1, 0, 0).refused(Pieces.INDEX);
        Trial cue = new Trial(Pieces::rich, "cue", 3, 100, 1000);
        cue.refuses(0, Pieces.INDEX, -1, 9, Integer.MIN_VALUE, Integer.MAX_VALUE);
        new Trial(Pieces::full, "cue", 288, 0, 0).refused(Pieces.INDEX);

        Doc.says(8, "Throws `IllegalArgumentException` if tick or lead is out of range");
        cue.refuses(1, Pieces.ARGUMENT, -1, 480, Integer.MIN_VALUE, Integer.MAX_VALUE);
        cue.refuses(2, Pieces.ARGUMENT, -1, 5001, Integer.MIN_VALUE, Integer.MAX_VALUE);

        Doc.says(8, "Throws `IllegalStateException` if something is played, or there are 12 cues");
        new Trial(Pieces::playing, "cue", 3, 100, 1000).refused(Pieces.STATE);
        new Trial(Pieces::full, "cue", 0, 0, 0).refused(Pieces.STATE);
        TempoPlayer player = Pieces.full();
        player.removeCue(11);
        player.cue(0, 0, 0);
        Check.refused("a 13th again", player, Pieces.STATE, () -> player.cue(0, 0, 0));
    }

    private static void promise9() {
        Doc.says(9, "Removes a cue; the numbers of the later ones decrease by 1.");
        TempoPlayer player = Pieces.of("4");
        for (int cue = 0; cue < 4; cue++) {
            player.cue(cue, 10 + cue, 20 + cue);
        }
        player.removeCue(1);
        Check.sameText("left", "0:10-20 2:12-22 3:13-23", Pieces.cuesOf(player));
        player.removeCue(2);
        player.removeCue(0);
        Check.sameText("left", "2:12-22", Pieces.cuesOf(player));
        player.removeCue(0);
        Check.same("none is left", 0, player.count(3));
        player.undo();
        player.undo();
        Check.sameText("undone", "0:10-20 2:12-22", Pieces.cuesOf(player));

        Doc.says(9, "`cue`: its number");
        new Trial(Pieces::rich, "removeCue", 1).range(0, 0, 2, Pieces.INDEX);
        new Trial(Pieces::full, "removeCue", 1).range(0, 0, 11, Pieces.INDEX);

        Doc.says(9, "Returns how many cues are left.");
        new Trial(Pieces::full, "removeCue", 11).answers(11);
        new Trial(Pieces::rich, "removeCue", 0).answers(2);
        TempoPlayer one = Pieces.of("1");
        one.cue(0, 0, 0);
        Check.same("removeCue", 0, one.removeCue(0));

        Doc.says(9, "Throws `IndexOutOfBoundsException` if the cue does not exist");
        Check.refused("no cue is left", one, Pieces.INDEX, () -> one.removeCue(0));
        new Trial(TempoPlayer::new, "removeCue", 0).refused(Pieces.INDEX);
        new Trial(Pieces::rich, "removeCue", 0).refuses(0, Pieces.INDEX, -1, 3, Integer.MIN_VALUE, Integer.MAX_VALUE);

        Doc.says(9, "Throws `IllegalStateException` if something is played");
        new Trial(Pieces::playing, "removeCue", 0).refused(Pieces.STATE);
    }

    private static void promise10() {
        Doc.says(10, "Adds the bars in the buffer behind the last one, each with an accent on its first beat alone, and clears the "
            + "buffer.");
        TempoPlayer player = new TempoPlayer();
        player.addBar(7, 7);
        Pieces.write(player, "3d4r900;12p20000;1d8;12d1r100p1;10r60000");
        player.load();
        Check.same("the buffer is clear", 0, player.clearInput());
        Check.sameText("bar 0", "7 7 0 0 1 0", Pieces.barOf(player, 0));
        Check.sameText("bar 1", "3 4 900 0 1 7", Pieces.barOf(player, 1));
        Check.sameText("bar 2", "12 1 0 20000 1 10", Pieces.barOf(player, 2));
        Check.sameText("bar 3", "1 8 0 0 1 22", Pieces.barOf(player, 3));
        Check.sameText("bar 4", "12 1 100 1 1 23", Pieces.barOf(player, 4));
        Check.sameText("bar 5", "10 1 60000 0 1 35", Pieces.barOf(player, 5));
        Check.same("one change", 2, player.count(10));
        Check.same("undone", 1, player.undo());
        Check.same("bars", 1, player.count(0));
        Check.same("the buffer does not come back", 0, player.clearInput());

        Doc.says(10, "Returns the number of bars then.");
        new Trial(() -> Pieces.written("12"), "load").answers(1);
        new Trial(() -> Pieces.written("1;2;3"), "load").answers(3);
        TempoPlayer many = Pieces.written("1;1;1;1;1;1;1;1;1;1;1;1;1;1;1;1;1;1;1;1;1;1;1;12");
        Check.same("24 bars of one text", 24, many.load());
        Check.sameText("the last one", "12 1 0 0 1 23", Pieces.barOf(many, 23));
    }

    private static void promise10Refused() {
        Doc.says(10, "Throws `IllegalArgumentException` if the buffer is not a complete text");
        String[] texts = {"", "1;", ";1", "0", "13", "1r9", "1r99", "1r99;1", "1d", "1r", "1p", "1d9", "1 ", "1;1x", "1p2d3", "01",
            "1;;1", "12d8r60000p20001", "12d8r60001p20000", "1;1d", "1".repeat(60), "1;".repeat(30)};
        for (String text : texts) {
            new Trial(() -> Pieces.written(text), "load").refused(Pieces.ARGUMENT);
        }

        Doc.says(10, "Throws `IllegalStateException` if something is played, or there would be more than 24 bars");
        new Trial(() -> writtenAfter(Pieces.bars(22), "2;3;4"), "load").refused(Pieces.STATE);
        new Trial(() -> writtenAfter(Pieces.bars(24), "1"), "load").refused(Pieces.STATE);
        new Trial(() -> writtenAfter(Pieces.bars(22), "2;3"), "load").answers(24);
        new Trial(() -> Pieces.written("1;".repeat(24) + "1"), "load").refused(Pieces.STATE);
        new Trial(() -> Pieces.written("1;".repeat(29) + "12"), "load").refused(Pieces.STATE);
        new Trial(() -> writtenAfter(Pieces.playing(), "4"), "load").refused(Pieces.STATE);
    }

    private static TempoPlayer writtenAfter(TempoPlayer player, String text) {
        Pieces.write(player, text);
        return player;
    }
}
