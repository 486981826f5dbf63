/** Players that tests begin with. */
final class Pieces {
    static final Class<IllegalArgumentException> ARGUMENT = IllegalArgumentException.class;
    static final Class<IllegalStateException> STATE = IllegalStateException.class;
    static final Class<IndexOutOfBoundsException> INDEX = IndexOutOfBoundsException.class;

    private Pieces() {
    }

    /** A piece that was loaded from a text; its history has one state. */
    static TempoPlayer of(String text) {
        TempoPlayer player = new TempoPlayer();
        write(player, text);
        player.load();
        return player;
    }

    static TempoPlayer bars(int bars) {
        TempoPlayer player = new TempoPlayer();
        for (int bar = 0; bar < bars; bar++) {
            player.addBar(1, 1);
        }
        return player;
    }

    static void write(TempoPlayer player, String text) {
        for (int index = 0; index < text.length(); index++) {
            player.append(text.charAt(index));
        }
    }

    static int errorIn(String text) {
        TempoPlayer player = new TempoPlayer();
        write(player, text);
        return player.firstError();
    }

    static String barOf(TempoPlayer player, int bar) {
        StringBuilder text = new StringBuilder();
        for (int what = 0; what <= 5; what++) {
            text.append(what == 0 ? "" : " ").append(player.bar(bar, what));
        }
        return text.toString();
    }

    static String marksOf(TempoPlayer player) {
        StringBuilder text = new StringBuilder();
        for (int mark = 0; mark < player.count(2); mark++) {
            text.append(mark == 0 ? "" : " ").append(player.tempo(mark, 0)).append(':');
            text.append(player.tempo(mark, 1)).append(player.tempo(mark, 2) == 1 ? "g" : "");
        }
        return text.toString();
    }

    static String cuesOf(TempoPlayer player) {
        StringBuilder text = new StringBuilder();
        for (int cue = 0; cue < player.count(3); cue++) {
            text.append(cue == 0 ? "" : " ").append(player.cueAt(cue, 0)).append(':');
            text.append(player.cueAt(cue, 1)).append('-').append(player.cueAt(cue, 2));
        }
        return text.toString();
    }

    /** One property of all beats. */
    static String beatsOf(TempoPlayer player, int what) {
        StringBuilder text = new StringBuilder();
        for (int beat = 0; beat < player.count(1); beat++) {
            text.append(beat == 0 ? "" : " ").append(player.beat(beat, what));
        }
        return text.toString();
    }
}
