/** The document's terms: times, bars, tempo, cues. */
public final class TermsTest {
    public static void main(String[] args) {
        times();
        bars();
        accents();
        tempoMarks();
        tempoOfABeat();
        lengths();
        rubberBars();
        beginnings();
        clicks();
        cues();
        lostCues();
        Doc.close(TermsTest.class);
    }

    private static void times() {
        Doc.says("Terms", "All times are in microseconds");
        TempoPlayer player = Pieces.of("1p1;2r100");
        Check.same("a beat at 120 per minute", 500000, player.beat(0, 5));
        Check.same("a pause of a millisecond", 1000, player.count(6));
        Check.same("a rubber length of 100 milliseconds", 100000, player.count(7));
        Check.same("the end", 601000, player.count(5));
        player.start(0, 0, 100);
        player.advance(1);
        Check.same("the clock after a millisecond", 1000, player.playing(0));

        Doc.says("Terms", "all divisions are rounded down, if nothing else is said");
        TempoPlayer thirds = Pieces.of("1d3;1");
        Check.same("click at 166666 2/3", 166666, thirds.click(0, 1));
        Check.same("click at 333333 1/3", 333333, thirds.click(0, 2));
        thirds.cue(0, 1, 0);
        Check.same("cue at 1041 2/3", 1041, thirds.cueAt(0, 3));
        Check.same("tick 1.99968", 1, thirds.at(2083, 1));
        Check.same("played end 662251 99/151", 662251, thirds.start(0, 0, 151));
        thirds.stop();
        Check.same("played end 502512 112/199", 502512, thirds.start(0, 0, 199));
        Check.same("played click at 83751.3", 83751, clickAfterTheFirst(thirds));
        thirds.stop();
        thirds.mark(0, 3999, false);
        Check.same("natural length 150037.5", 150037, thirds.beat(0, 3));
    }

    private static long clickAfterTheFirst(TempoPlayer player) {
        player.advance(1);
        return player.playing(2);
    }

    private static void bars() {
        Doc.says("Bars", "at most 24 bars, numbered from 0");
        TempoPlayer full = new TempoPlayer();
        for (int bar = 0; bar < 24; bar++) {
            Check.same("addBar", bar, full.addBar(1 + bar % 12, 1));
        }
        Check.same("bars", 24, full.count(0));
        Check.sameText("their beats", "1 2 3 4 5 6 7 8 9 10 11 12 1 2 3 4 5 6 7 8 9 10 11 12", Pieces.barsOf(full, 0));
        Check.refused("a 25th bar", full, Pieces.STATE, () -> full.addBar(1, 1));
        Check.refused("bar 24", full, Pieces.INDEX, () -> full.bar(24, 0));

        Doc.says("Bars", "1 to 12 beats");
        TempoPlayer one = Pieces.bars(1);
        Check.same("a bar of one beat", 500000, one.count(5));
        one.setBar(0, 0, 12);
        Check.same("a bar of 12 beats", 6000000, one.count(5));
        Check.same("its beats", 12, one.count(1));

        Doc.says("Bars", "a division (1 to 8, the number of clicks of each beat)");
        Check.same("clicks with division 1", 12, one.count(4));
        one.setBar(0, 1, 8);
        Check.same("clicks with division 8", 96, one.count(4));
        Check.same("the last click", 11 * 500000 + 437500, one.click(11, 7));
        Check.refused("click 8", one, Pieces.INDEX, () -> one.click(11, 8));

        Doc.says("Bars", "a rubber length (100 to 60000 milliseconds, or 0 if it is no rubber bar)");
        one.setBar(0, 2, 100);
        Check.same("the end with the least", 100000, one.count(5));
        one.setBar(0, 2, 60000);
        Check.same("the end with the greatest", 60000000, one.count(5));
        one.setBar(0, 2, 0);
        Check.same("the end with none", 6000000, one.count(5));
        Check.same("no rubber bar", 0, one.count(7));

        Doc.says("Bars", "a pause (0 to 20000 milliseconds)");
        one.setBar(0, 3, 20000);
        Check.same("the end with the greatest", 26000000, one.count(5));
        one.setBar(0, 3, 1);
        Check.same("the end with one of 1", 6001000, one.count(5));
        one.setBar(0, 3, 0);
        Check.same("the end with none", 6000000, one.count(5));

        Doc.says("Bars", "The beats of all bars are numbered from 0 on through the piece.");
        TempoPlayer mixed = Pieces.of("2;1;12");
        Check.sameText("first beats", "0 2 3", Pieces.barsOf(mixed, 5));
        Check.sameText("bars of beats", "0 0 1 2 2 2 2 2 2 2 2 2 2 2 2", Pieces.beatsOf(mixed, 0));
        Check.sameText("places in them", "0 1 0 0 1 2 3 4 5 6 7 8 9 10 11", Pieces.beatsOf(mixed, 1));
        TempoPlayer greatest = Pieces.full();
        Check.same("the most beats", 288, greatest.count(1));
        Check.same("the last bar's first beat", 276, greatest.bar(23, 5));
        Check.same("the last beat's bar", 23, greatest.beat(287, 0));
        Check.same("the last beat's place", 11, greatest.beat(287, 1));
        Check.refused("beat 288", greatest, Pieces.INDEX, () -> greatest.beat(288, 0));
    }

    private static void accents() {
        Doc.says("Bars", "bit k for beat k of the bar");
        TempoPlayer player = Pieces.of("3;12");
        player.setBar(0, 4, 0b110);
        player.setBar(1, 4, 0b100000000001);
        Check.sameText("accents of beats", "0 1 1 1 0 0 0 0 0 0 0 0 0 0 1", Pieces.beatsOf(player, 6));

        Doc.says("Bars", "bits of beats that it does not have are always 0, also if it gets more beats later");
        for (int beats = 1; beats <= 12; beats++) {
            TempoPlayer one = new TempoPlayer();
            one.addBar(beats, 1);
            one.setBar(0, 4, 4095);
            Check.same("all accents of " + beats + " beats", (1 << beats) - 1, one.bar(0, 4));
            one.setBar(0, 0, 12);
            Check.same("and with more beats", (1 << beats) - 1, one.bar(0, 4));
            one.setBar(0, 4, 4095);
            one.setBar(0, 0, beats);
            Check.same("with fewer beats", (1 << beats) - 1, one.bar(0, 4));
            one.setBar(0, 0, 12);
            Check.same("and with more beats again", (1 << beats) - 1, one.bar(0, 4));
        }
        TempoPlayer kept = Pieces.of("12");
        kept.setBar(0, 4, 4095);
        kept.keep(0);
        kept.setBar(0, 0, 1);
        Check.same("one beat's", 1, kept.bar(0, 4));
        kept.undo();
        Check.same("all, as before the change", 4095, kept.bar(0, 4));
        kept.setBar(0, 0, 1);
        kept.back(0);
        Check.same("all, as in the image", 4095, kept.bar(0, 4));
    }

    private static void tempoMarks() {
        Doc.says("Tempo", "at most 10 tempo marks");
        TempoPlayer player = new TempoPlayer();
        for (int mark = 1; mark <= 10; mark++) {
            Check.same("mark", mark, player.mark(mark, 1200, false));
        }
        Check.refused("an 11th mark", player, Pieces.STATE, () -> player.mark(0, 1200, false));
        Check.refused("an 11th mark behind them", player, Pieces.STATE, () -> player.mark(11, 1200, false));
        Check.refused("mark 10", player, Pieces.INDEX, () -> player.tempo(10, 0));

        Doc.says("Tempo", "A mark has a beat (0 to 287, no two have the same one)");
        TempoPlayer ends = Pieces.full();
        ends.begin();
        Check.same("the first beat's", 1, ends.mark(0, 1000, false));
        Check.same("the last beat's", 2, ends.mark(287, 2000, false));
        Check.same("the first beat's again", 2, ends.mark(0, 1001, true));
        Check.same("the last beat's again", 2, ends.mark(287, 2001, true));
        Check.sameText("one at each", "0:1001g 287:2001g", Pieces.marksOf(ends));

        Doc.says("Tempo", "a tempo (200 to 4000 tenths of beats per minute)");
        TempoPlayer one = Pieces.of("1");
        one.mark(0, 200, false);
        Check.same("20 beats a minute", 3000000, one.count(5));
        one.mark(0, 4000, false);
        Check.same("400 beats a minute", 150000, one.count(5));

        Doc.says("Tempo", "Marks are numbered from 0 in ascending order of their beats.");
        TempoPlayer order = new TempoPlayer();
        int[] beats = {200, 287, 0, 100, 1, 286};
        for (int beat : beats) {
            order.mark(beat, 1000 + beat, false);
        }
        Check.sameText("marks", "0:1000 1:1001 100:1100 200:1200 286:1286 287:1287", Pieces.marksOf(order));

        Doc.says("Tempo", "(A mark may be at a beat that the piece does not have.)");
        TempoPlayer without = new TempoPlayer();
        Check.same("a mark without beats", 1, without.mark(287, 4000, false));
        without.mark(1, 600, true);
        without.addBar(2, 1);
        Check.same("the first beat behind the end is its", 600, without.beat(1, 2));
        without.mark(2, 700, false);
        Check.same("a mark at the end", 600, without.beat(1, 2));
        without.removeBar(0);
        Check.same("marks stay when their beats go", 3, without.count(2));
        without.addBar(12, 1);
        Check.sameText("and hold when they come", "1200 600 700 700 700 700 700 700 700 700 700 700",
            Pieces.beatsOf(without, 2));
    }

    private static void tempoOfABeat() {
        Doc.says("Tempo", "The tempo of a beat is 1200 if no mark is at it or before it.");
        TempoPlayer player = Pieces.of("4");
        Check.sameText("without marks", "1200 1200 1200 1200", Pieces.beatsOf(player, 2));
        player.mark(3, 600, true);
        Check.sameText("before a mark", "1200 1200 1200 600", Pieces.beatsOf(player, 2));
        player.mark(0, 1199, false);
        Check.sameText("at a mark", "1199 1199 1199 600", Pieces.beatsOf(player, 2));

        Doc.says("Tempo", "with the latest such mark, at beat p with the tempo v: if it is gradual and there is a next mark");
        TempoPlayer up = Pieces.of("7");
        up.mark(1, 1000, true);
        up.mark(5, 2000, true);
        Check.sameText("gradual to the next one", "1200 1000 1250 1500 1750 2000 2000", Pieces.beatsOf(up, 2));
        up.mark(5, 2000, false);
        up.mark(6, 300, false);
        Check.sameText("a next mark that holds", "1200 1000 1250 1500 1750 2000 300", Pieces.beatsOf(up, 2));
        up.mark(1, 1000, false);
        Check.sameText("one that is not gradual", "1200 1000 1000 1000 1000 2000 300", Pieces.beatsOf(up, 2));
        TempoPlayer behind = Pieces.of("4");
        behind.mark(2, 1000, true);
        Check.sameText("no next mark", "1200 1200 1000 1000", Pieces.beatsOf(behind, 2));
        behind.mark(4, 2000, false);
        Check.sameText("a next mark at the end of the piece", "1200 1200 1000 1500", Pieces.beatsOf(behind, 2));
        behind.removeMark(1);
        behind.mark(287, 3850, true);
        Check.sameText("a next mark far behind the piece", "1200 1200 1000 1010", Pieces.beatsOf(behind, 2));

        Doc.says("Tempo", "where this quotient is truncated toward 0; otherwise it is v");
        TempoPlayer down = Pieces.of("7");
        down.mark(0, 1000, true);
        down.mark(4, 997, false);
        Check.sameText("-0.75, -1.5, -2.25", "1000 1000 999 998 997 997 997", Pieces.beatsOf(down, 2));
        down.mark(4, 1003, false);
        Check.sameText("0.75, 1.5, 2.25", "1000 1000 1001 1002 1003 1003 1003", Pieces.beatsOf(down, 2));
        down.mark(4, 1000, false);
        Check.sameText("no change", "1000 1000 1000 1000 1000 1000 1000", Pieces.beatsOf(down, 2));
        TempoPlayer far = Pieces.full();
        far.begin();
        for (int bar = 0; bar < 24; bar++) {
            far.addBar(12, 1);
        }
        far.mark(0, 4000, true);
        far.mark(287, 200, true);
        Check.same("-13.24", 3987, far.beat(1, 2));
        Check.same("-3786.76", 214, far.beat(286, 2));
        Check.same("the last beat", 200, far.beat(287, 2));
        far.mark(0, 200, true);
        far.mark(287, 4000, false);
        Check.same("13.24", 213, far.beat(1, 2));
        Check.same("3786.76", 3986, far.beat(286, 2));
        Check.same("the last beat", 4000, far.beat(287, 2));
    }

    private static void lengths() {
        Doc.says("Tempo", "The natural length of a beat is 600000000 divided by its tempo.");
        TempoPlayer player = Pieces.of("3r900;1");
        int[][] due = {{200, 3000000}, {201, 2985074}, {700, 857142}, {1200, 500000}, {1199, 500417}, {3999, 150037},
            {4000, 150000}};
        for (int[] pair : due) {
            player.mark(0, pair[0], false);
            Check.same("natural length at " + pair[0], pair[1], player.beat(3, 3));
            Check.same("in a rubber bar at " + pair[0], pair[1], player.beat(0, 3));
        }

        Doc.says("Tempo", "The length of a beat is that, if its bar is no rubber bar.");
        for (int[] pair : due) {
            player.mark(0, pair[0], false);
            Check.same("length at " + pair[0], pair[1], player.beat(3, 5));
            Check.same("not in a rubber bar, at " + pair[0], 300000, player.beat(0, 5));
        }
    }

    private static void rubberBars() {
        Doc.says("Tempo", "beat k of the bar begins r * N(k) / N(n) after the beginning of the bar, and ends where the next one "
            + "begins (the last one after r)");
        TempoPlayer seven = Pieces.of("1;7r100p1;1");
        Check.sameText("sevenths", "0 500000 514285 528571 542857 557142 571428 585714 601000", Pieces.beatsOf(seven, 4));
        Check.sameText("they fill it", "500000 14285 14286 14286 14285 14286 14286 14286 500000", Pieces.beatsOf(seven, 5));
        TempoPlayer uneven = Pieces.of("2;3r1000p50;1");
        uneven.mark(3, 700, false);
        Check.sameText("begins", "0 500000 1000000 1225806 1612903 2050000", Pieces.beatsOf(uneven, 4));
        Check.sameText("lengths", "500000 500000 225806 387097 387097 857142", Pieces.beatsOf(uneven, 5));
        uneven.setBar(1, 2, 60000);
        Check.sameText("the longest", "500000 500000 13548397 23225801 23225802 857142", Pieces.beatsOf(uneven, 5));
        TempoPlayer one = Pieces.of("1r60000");
        Check.same("a single beat", 60000000, one.beat(0, 5));
        one.setBar(0, 2, 100);
        Check.same("a single beat", 100000, one.beat(0, 5));
        TempoPlayer slow = Pieces.of("12r60000");
        slow.mark(0, 200, false);
        slow.mark(11, 4000, false);
        Check.same("the second beat of the greatest products", 5429864, slow.beat(1, 4));
        Check.same("the last one", 59728506, slow.beat(11, 4));
        Check.same("it ends with the rubber length", 271494, slow.beat(11, 5));
        slow.setBar(0, 2, 100);
        Check.same("the shortest beat", 453, slow.beat(11, 5));
        Check.same("the end is that of the rubber length", 100000, slow.count(5));
    }

    private static void beginnings() {
        Doc.says("Tempo", "The bars follow each other; after the last beat of a bar its pause comes, also after the last bar.");
        TempoPlayer player = Pieces.of("2p1;1r300p20000;1;1p7");
        Check.sameText("begins", "0 500000 1001000 21301000 21801000", Pieces.beatsOf(player, 4));
        Check.same("the end", 22308000, player.count(5));
        Check.same("in a pause", 1, player.at(1000999, 2));
        Check.same("in the last pause", 1, player.at(22307999, 2));

        Doc.says("Tempo", "The time of the beginning of the first beat is 0.");
        Check.same("the first beat", 0, player.beat(0, 4));
        player.removeBar(0);
        Check.same("the first beat of a rubber bar", 0, player.beat(0, 4));
        player.mark(0, 4000, true);
        Check.same("with a mark", 0, player.beat(0, 4));

        Doc.says("Tempo", "The end of the piece is that of the last pause.");
        Check.same("without bars", 0, new TempoPlayer().count(5));
        Check.same("without a pause", 500000, Pieces.of("1").count(5));
        Check.same("with one", 20500000, Pieces.of("1p20000").count(5));
        TempoPlayer longest = Pieces.longest();
        Check.same("the greatest", 1920000000L, longest.count(5));
        Check.same("the last beat", 1840000000L, longest.beat(23, 4));
    }

    private static void clicks() {
        Doc.says("Tempo", "Click j of a beat, from 0 on, is at the beginning of the beat plus (length of the beat) * j / division.");
        TempoPlayer player = Pieces.of("1r60000;1d7p1;1d8r60000;1d8");
        Check.same("the one click", 0, player.click(0, 0));
        long[] sevenths = {0, 71428, 142857, 214285, 285714, 357142, 428571};
        for (int click = 0; click < 7; click++) {
            Check.same("click " + click + " of 7", 60000000 + sevenths[click], player.click(1, click));
        }
        Check.same("the last one of the longest beat", 60501000 + 52500000, player.click(2, 7));
        player.mark(3, 3999, false);
        Check.same("click at 56263.9 of the beat", 120501000 + 56263, player.click(3, 3));

        Doc.says("Tempo", "A click is loud if it is click 0 of a beat with an accent.");
        TempoPlayer loud = Pieces.of("4d8");
        loud.setBar(0, 4, 0b1010);
        loud.start(0, 0, 100);
        int[] due = {0, 1, 1, 2};
        for (int beat = 0; beat < 4; beat++) {
            loud.advance(1);
            Check.same("after click 0 of beat " + beat, due[beat], loud.playing(5));
            loud.advance(498);
            Check.same("after click 7 of beat " + beat, due[beat], loud.playing(5));
            loud.advance(1);
        }
    }

    private static void cues() {
        Doc.says("Cues", "at most 12 cues, numbered from 0 in the order in which they were added");
        TempoPlayer player = Pieces.of("2;2");
        for (int cue = 0; cue < 12; cue++) {
            Check.same("cue", cue, player.cue(3 - cue % 4, 479 - cue, cue));
        }
        Check.refused("a 13th cue", player, Pieces.STATE, () -> player.cue(0, 0, 0));
        Check.refused("cue 12", player, Pieces.INDEX, () -> player.cueAt(12, 0));
        Check.sameText("in the order of their adding", "3:479-0 2:478-1 1:477-2 0:476-3 3:475-4 2:474-5 1:473-6 0:472-7 "
            + "3:471-8 2:470-9 1:469-10 0:468-11", Pieces.cuesOf(player));

        Doc.says("Cues", "A cue has a beat of the piece, a tick (0 to 479) and a lead (0 to 5000 milliseconds).");
        TempoPlayer ends = Pieces.full();
        ends.undo();
        Check.same("the greatest", 11, ends.cue(287, 479, 5000));
        Check.same("its beat", 287, ends.cueAt(11, 0));
        Check.same("its tick", 479, ends.cueAt(11, 1));
        Check.same("its lead", 5000, ends.cueAt(11, 2));
        ends.undo();
        Check.same("the least", 11, ends.cue(0, 0, 0));
        Check.same("its place", 0, ends.cueAt(11, 3));

        Doc.says("Cues", "Its place is the beginning of the beat plus (length of the beat) * tick / 480.");
        TempoPlayer places = Pieces.of("1r60000p1;1;1r100");
        int[][] cues = {{0, 0}, {0, 1}, {0, 479}, {1, 0}, {1, 1}, {1, 479}, {2, 479}};
        long[] due = {0, 125000, 59875000, 60001000, 60002041, 60499958, 60600791};
        for (int cue = 0; cue < cues.length; cue++) {
            places.cue(cues[cue][0], cues[cue][1], 5000);
            Check.same("the place of cue " + cue, due[cue], places.cueAt(cue, 3));
        }
    }

    private static void lostCues() {
        Doc.says("Cues", "A cue whose beat does not exist any more is removed, at once with the change that takes its beat away.");
        TempoPlayer player = Pieces.of("2;3;1");
        int[] beats = {5, 0, 4, 5, 3, 1};
        for (int beat : beats) {
            player.cue(beat, beat, 0);
        }
        player.setBar(0, 0, 1);
        Check.sameText("one beat fewer", "0:0-0 4:4-0 3:3-0 1:1-0", Pieces.cuesOf(player));
        Check.same("cues", 4, player.count(3));
        player.setBar(0, 0, 2);
        Check.sameText("they do not come back", "0:0-0 4:4-0 3:3-0 1:1-0", Pieces.cuesOf(player));
        player.removeBar(0);
        Check.sameText("a bar fewer", "0:0-0 3:3-0 1:1-0", Pieces.cuesOf(player));
        player.undo();
        player.undo();
        player.undo();
        Check.sameText("undone", "5:5-0 0:0-0 4:4-0 5:5-0 3:3-0 1:1-0", Pieces.cuesOf(player));
        Check.same("times undone too", 3000000, player.count(5));
        player.setBar(0, 0, 12);
        Check.same("with more beats all stay", 6, player.count(3));
        player.setBar(0, 0, 2);
        Check.same("and with as many as before", 6, player.count(3));
        for (int bar = 2; bar >= 0; bar--) {
            player.removeBar(bar);
        }
        Check.same("without bars there is none", 0, player.count(3));
        TempoPlayer full = Pieces.full();
        full.setBar(0, 0, 11);
        Check.same("the last beat's is removed", 11, full.count(3));
        Check.same("the others move up", 286, full.cueAt(0, 0));
        Check.same("one more is taken", 11, full.cue(286, 0, 0));
    }
}
