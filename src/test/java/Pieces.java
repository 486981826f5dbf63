/** Players that tests begin with. */
final class Pieces {
    static final Class<IllegalArgumentException> ARGUMENT = IllegalArgumentException.class;
    static final Class<IllegalStateException> STATE = IllegalStateException.class;
    static final Class<IndexOutOfBoundsException> INDEX = IndexOutOfBoundsException.class;

    private Pieces() {
    }

    /** A piece that was loaded from a text; its history has one state. */
    static TempoPlayer of(String text) {
        TempoPlayer player = new TempoPlayer();
        write(player, text);
        player.load();
        return player;
    }

    static TempoPlayer bars(int bars) {
        TempoPlayer player = new TempoPlayer();
        for (int bar = 0; bar < bars; bar++) {
            player.addBar(1, 1);
        }
        return player;
    }

    /** Some of everything: 3 bars, 9 beats, 2 marks, 3 cues, 7 states, one image, a part of a text. */
    static TempoPlayer rich() {
        TempoPlayer player = of("3d2r900p7;4;2d8p20");
        player.keep(1);
        player.setBar(1, 4, 0b1010);
        player.mark(1, 600, true);
        player.mark(200, 4000, false);
        player.cue(8, 100, 200);
        player.cue(0, 479, 0);
        player.cue(4, 1, 5000);
        write(player, "3d");
        return player;
    }

    /** The same, some way into it. */
    static TempoPlayer playing() {
        TempoPlayer player = rich();
        player.start(1, 2, 150);
        player.advance(700);
        return player;
    }

    /** All that there is room for: 24 bars of 12 beats with 8 clicks, 10 marks, 12 cues, 8 states, 2 images, 60 characters. */
    static TempoPlayer full() {
        TempoPlayer player = new TempoPlayer();
        player.keep(0);
        for (int bar = 0; bar < 24; bar++) {
            player.addBar(12, 8);
        }
        player.keep(1);
        for (int mark = 0; mark < 10; mark++) {
            player.mark(mark, 1000 + mark, true);
        }
        for (int cue = 0; cue < 12; cue++) {
            player.cue(287 - cue, 40 * cue, 400 * cue);
        }
        write(player, "1".repeat(60));
        return player;
    }

    /** The longest piece that there is: 24 bars of one beat, a minute long, with the longest pauses. */
    static TempoPlayer longest() {
        TempoPlayer player = new TempoPlayer();
        for (int bar = 0; bar < 24; bar++) {
            player.addBar(1, 8);
            player.setBar(bar, 2, 60000);
            player.setBar(bar, 3, 20000);
        }
        return player;
    }

    static TempoPlayer fullPlaying() {
        TempoPlayer player = full();
        player.start(23, 8, 200);
        return player;
    }

    static void write(TempoPlayer player, String text) {
        for (int index = 0; index < text.length(); index++) {
            player.append(text.charAt(index));
        }
    }

    static TempoPlayer written(String text) {
        TempoPlayer player = new TempoPlayer();
        write(player, text);
        return player;
    }

    static int errorIn(String text) {
        return written(text).firstError();
    }

    static String barOf(TempoPlayer player, int bar) {
        StringBuilder text = new StringBuilder();
        for (int what = 0; what <= 5; what++) {
            text.append(what == 0 ? "" : " ").append(player.bar(bar, what));
        }
        return text.toString();
    }

    /** One property of all bars. */
    static String barsOf(TempoPlayer player, int what) {
        StringBuilder text = new StringBuilder();
        for (int bar = 0; bar < player.count(0); bar++) {
            text.append(bar == 0 ? "" : " ").append(player.bar(bar, what));
        }
        return text.toString();
    }

    static String marksOf(TempoPlayer player) {
        StringBuilder text = new StringBuilder();
        for (int mark = 0; mark < player.count(2); mark++) {
            text.append(mark == 0 ? "" : " ").append(player.tempo(mark, 0)).append(':');
            text.append(player.tempo(mark, 1)).append(player.tempo(mark, 2) == 1 ? "g" : "");
        }
        return text.toString();
    }

    static String cuesOf(TempoPlayer player) {
        StringBuilder text = new StringBuilder();
        for (int cue = 0; cue < player.count(3); cue++) {
            text.append(cue == 0 ? "" : " ").append(player.cueAt(cue, 0)).append(':');
            text.append(player.cueAt(cue, 1)).append('-').append(player.cueAt(cue, 2));
        }
        return text.toString();
    }

    /** One property of all beats. */
    static String beatsOf(TempoPlayer player, int what) {
        StringBuilder text = new StringBuilder();
        for (int beat = 0; beat < player.count(1); beat++) {
            text.append(beat == 0 ? "" : " ").append(player.beat(beat, what));
        }
        return text.toString();
    }
}
