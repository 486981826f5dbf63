import java.util.ArrayList;
import java.util.List;

/** All that can be seen of a player: the state, what it plays from here on, the history and the images. */
final class Look {
    private static final int[] STEPS = {1, 16, 233, 250, 1000, 60000};
    /** More than a history has. */
    private static final int MOST_STATES = 10;

    private Look() {
    }

    /** The player is used up by it. */
    static List<Long> at(TempoPlayer player) {
        List<Long> seen = new ArrayList<>();
        seen.add(player.digest());
        seen.add((long) player.firstError());
        seen.add((long) player.clearInput());
        playOn(player, seen);
        for (int state = 0; state < MOST_STATES && player.count(10) > 0; state++) {
            seen.add((long) player.undo());
            seen.add(player.digest());
        }
        for (int image = 0; image < 2; image++) {
            if ((player.count(11) >> image & 1) == 1) {
                seen.add((long) player.back(image));
                seen.add(player.digest());
            }
        }
        return seen;
    }

    private static void playOn(TempoPlayer player, List<Long> seen) {
        for (int step = 0; step < STEPS.length && player.count(9) == 1; step++) {
            seen.add((long) player.advance(STEPS[step]));
            seen.add(player.digest());
        }
        if (player.count(9) == 1) {
            seen.add(player.stop());
        }
    }
}
