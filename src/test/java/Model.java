import java.util.ArrayDeque;
import java.util.ArrayList;
import java.util.List;
import java.util.Map;
import java.util.TreeMap;
import java.util.regex.Matcher;
import java.util.regex.Pattern;

/**
 * The document once more, in the slowest and plainest way, to compare the program with: nothing is kept
 * but the state, every list is made anew, and every answer is searched for.
 */
final class Model {
    private static final String BAR = "(1[0-2]|[1-9])(d([1-8]))?(r([1-9][0-9]{2,3}|[1-5][0-9]{4}|60000))?"
        + "(p([1-9][0-9]{0,3}|1[0-9]{4}|20000))?";
    private static final Pattern ONE_BAR = Pattern.compile(BAR);
    private static final Pattern TEXT = Pattern.compile(BAR + "(;" + BAR + ")*");

    static final class Bar {
        int[] of = {1, 1, 0, 0, 1};
    }

    static final class Beat {
        int bar;
        int place;
        int tempo;
        long natural;
        long begin;
        long length;
        int accent;
    }

    static final class Event {
        long time;
        boolean isCue;
        boolean isLoud;
    }

    static final class State {
        List<Bar> bars = new ArrayList<>();
        TreeMap<Integer, int[]> marks = new TreeMap<>();
        List<int[]> cues = new ArrayList<>();

        State copy() {
            State copy = new State();
            for (Bar bar : bars) {
                Bar other = new Bar();
                other.of = bar.of.clone();
                copy.bars.add(other);
            }
            for (Map.Entry<Integer, int[]> mark : marks.entrySet()) {
                copy.marks.put(mark.getKey(), mark.getValue().clone());
            }
            for (int[] cue : cues) {
                copy.cues.add(cue.clone());
            }
            return copy;
        }

        int tempoOf(int beat) {
            Map.Entry<Integer, int[]> mark = marks.floorEntry(beat);
            if (mark == null) {
                return 1200;
            }
            Map.Entry<Integer, int[]> next = marks.higherEntry(beat);
            int tempo = mark.getValue()[0];
            if (mark.getValue()[1] == 0 || next == null) {
                return tempo;
            }
            int product = (next.getValue()[0] - tempo) * (beat - mark.getKey());
            int size = Math.abs(product) / (next.getKey() - mark.getKey());
            return product < 0 ? tempo - size : tempo + size;
        }

        List<Beat> beats() {
            List<Beat> all = new ArrayList<>();
            long time = 0;
            for (int number = 0; number < bars.size(); number++) {
                Bar bar = bars.get(number);
                List<Beat> own = new ArrayList<>();
                long natural = 0;
                for (int place = 0; place < bar.of[0]; place++) {
                    Beat beat = new Beat();
                    beat.bar = number;
                    beat.place = place;
                    beat.tempo = tempoOf(all.size() + place);
                    beat.natural = 600000000 / beat.tempo;
                    beat.accent = (bar.of[4] & 1 << place) != 0 ? 1 : 0;
                    natural += beat.natural;
                    own.add(beat);
                }
                long rubber = bar.of[2] * 1000L;
                long sum = 0;
                for (Beat beat : own) {
                    beat.begin = time + (rubber == 0 ? sum : Math.floorDiv(rubber * sum, natural));
                    sum += beat.natural;
                    long ended = time + (rubber == 0 ? sum : Math.floorDiv(rubber * sum, natural));
                    beat.length = ended - beat.begin;
                }
                all.addAll(own);
                time += (rubber == 0 ? natural : rubber) + bar.of[3] * 1000L;
            }
            return all;
        }

        int firstBeat(int bar) {
            int sum = 0;
            for (int before = 0; before < bar; before++) {
                sum += bars.get(before).of[0];
            }
            return sum;
        }

        long end(List<Beat> beats) {
            if (beats.isEmpty()) {
                return 0;
            }
            Beat last = beats.get(beats.size() - 1);
            return last.begin + last.length + bars.get(bars.size() - 1).of[3] * 1000L;
        }

        void dropLostCues() {
            int beats = firstBeat(bars.size());
            cues.removeIf(cue -> cue[0] >= beats);
        }

        long cuePlace(List<Beat> beats, int[] cue) {
            Beat beat = beats.get(cue[0]);
            return beat.begin + Math.floorDiv(beat.length * cue[1], 480);
        }
    }

    private State state = new State();
    private List<Beat> beats = new ArrayList<>();
    private final ArrayDeque<State> history = new ArrayDeque<>();
    private final State[] images = new State[2];
    private String input = "";
    private List<Event> events;
    private long clock;
    private long playedEnd;

    /** The answer: a Long, or the class of the exception. A double is answered by its bits. */
    Object call(String name, long... a) {
        try {
            return answer(name, a);
        } catch (IllegalArgumentException | IllegalStateException | IndexOutOfBoundsException e) {
            return e.getClass();
        }
    }

    private static void index(boolean right) {
        if (!right) {
            throw new IndexOutOfBoundsException();
        }
    }

    private static void argument(boolean right) {
        if (!right) {
            throw new IllegalArgumentException();
        }
    }

    private static void state(boolean right) {
        if (!right) {
            throw new IllegalStateException();
        }
    }

    private static boolean in(long value, long least, long most) {
        return least <= value && value <= most;
    }

    private boolean isBar(long bar) {
        return in(bar, 0, state.bars.size() - 1);
    }

    private boolean isBeat(long beat) {
        return in(beat, 0, beats.size() - 1);
    }

    private boolean isPlaying() {
        return events != null;
    }

    private long answer(String name, long[] a) {
        switch (name) {
            case "begin": case "addBar": case "setBar": case "removeBar": case "mark": case "removeMark": case "cue":
            case "removeCue": case "load": case "back":
                return change(name, a);
            case "undo":
                state(!isPlaying() && !history.isEmpty());
                state = history.removeLast();
                beats = state.beats();
                return history.size();
            case "keep":
                index(in(a[0], 0, 1));
                images[(int) a[0]] = state.copy();
                return state.bars.size();
            case "append":
                argument(in(a[0], 32, 126));
                state(input.length() < 60);
                input += (char) a[0];
                return input.length();
            case "clearInput":
                int before = input.length();
                input = "";
                return before;
            case "firstError":
                return firstError();
            case "start": case "advance": case "stop": case "playing":
                return playingCall(name, a);
            case "bestSpeed": case "rubberFor": case "ifMark":
                return ahead(name, a);
            case "meanTempo":
                return Double.doubleToLongBits(meanTempo());
            case "digest":
                return digest();
            default:
                return look(name, a);
        }
    }

    /** What the call would make of the present state; recorded when it has thrown nothing. */
    private long change(String name, long[] a) {
        State next = state.copy();
        long answer = changed(next, name, a);
        history.addLast(state);
        if (history.size() > 8) {
            history.removeFirst();
        }
        state = next;
        state.dropLostCues();
        beats = state.beats();
        return answer;
    }

    private long changed(State next, String name, long[] a) {
        int count = next.bars.size();
        switch (name) {
            case "begin":
                state(!isPlaying());
                next.bars.clear();
                next.marks.clear();
                next.cues.clear();
                return count;
            case "addBar":
                argument(in(a[0], 1, 12) && in(a[1], 1, 8));
                state(!isPlaying() && count < 24);
                Bar bar = new Bar();
                bar.of[0] = (int) a[0];
                bar.of[1] = (int) a[1];
                next.bars.add(bar);
                return count;
            case "setBar":
                return setBar(next, a);
            case "removeBar":
                index(isBar(a[0]));
                state(!isPlaying());
                next.bars.remove((int) a[0]);
                return count - 1;
            case "mark":
                argument(in(a[0], 0, 287) && in(a[1], 200, 4000));
                state(!isPlaying() && (next.marks.size() < 10 || next.marks.containsKey((int) a[0])));
                next.marks.put((int) a[0], new int[] {(int) a[1], (int) a[2]});
                return next.marks.size();
            case "removeMark":
                index(in(a[0], 0, next.marks.size() - 1));
                state(!isPlaying());
                next.marks.remove(new ArrayList<>(next.marks.keySet()).get((int) a[0]));
                return next.marks.size();
            default:
                return changedMore(next, name, a);
        }
    }

    private long changedMore(State next, String name, long[] a) {
        switch (name) {
            case "cue":
                index(isBeat(a[0]));
                argument(in(a[1], 0, 479) && in(a[2], 0, 5000));
                state(!isPlaying() && next.cues.size() < 12);
                next.cues.add(new int[] {(int) a[0], (int) a[1], (int) a[2]});
                return next.cues.size() - 1;
            case "removeCue":
                index(in(a[0], 0, next.cues.size() - 1));
                state(!isPlaying());
                next.cues.remove((int) a[0]);
                return next.cues.size();
            case "back":
                index(in(a[0], 0, 1));
                state(!isPlaying() && images[(int) a[0]] != null);
                State image = images[(int) a[0]].copy();
                next.bars = image.bars;
                next.marks = image.marks;
                next.cues = image.cues;
                return next.bars.size();
            default:
                return load(next);
        }
    }

    private long setBar(State next, long[] a) {
        index(isBar(a[0]) && in(a[1], 0, 4));
        long v = a[2];
        boolean[] right = {in(v, 1, 12), in(v, 1, 8), v == 0 || in(v, 100, 60000), in(v, 0, 20000), in(v, 0, 4095)};
        argument(right[(int) a[1]]);
        state(!isPlaying());
        int[] of = next.bars.get((int) a[0]).of;
        int before = of[(int) a[1]];
        of[(int) a[1]] = (int) v;
        for (int bit = of[0]; bit < 12; bit++) {
            of[4] &= ~(1 << bit);
        }
        return before;
    }

    private long load(State next) {
        argument(TEXT.matcher(input).matches());
        String[] texts = input.split(";");
        state(!isPlaying() && next.bars.size() + texts.length <= 24);
        for (String text : texts) {
            Matcher matcher = ONE_BAR.matcher(text);
            argument(matcher.matches());
            Bar bar = new Bar();
            int[] groups = {1, 3, 5, 7};
            for (int what = 0; what < 4; what++) {
                String number = matcher.group(groups[what]);
                bar.of[what] = number != null ? Integer.parseInt(number) : bar.of[what];
            }
            next.bars.add(bar);
        }
        input = "";
        return next.bars.size();
    }

    private long firstError() {
        for (int length = 1; length <= input.length(); length++) {
            Matcher matcher = TEXT.matcher(input.substring(0, length));
            if (!matcher.matches() && !matcher.hitEnd()) {
                return length - 1;
            }
        }
        return input.length();
    }

    private long playingCall(String name, long[] a) {
        switch (name) {
            case "start":
                index(isBar(a[0]));
                argument(in(a[1], 0, 8) && in(a[2], 50, 200));
                state(!isPlaying());
                open((int) a[0], a[1], a[2]);
                return playedEnd;
            case "advance":
                argument(in(a[0], 1, 60000));
                state(isPlaying());
                long before = clock;
                clock += a[0] * 1000;
                long heard = events.stream().filter(e -> e.time >= before && e.time < clock).count();
                if (clock >= playedEnd) {
                    events = null;
                }
                return heard;
            case "stop":
                state(isPlaying());
                events = null;
                return clock;
            default:
                argument(in(a[0], 0, 6));
                return isPlaying() ? played((int) a[0]) : -1;
        }
    }

    private void open(int bar, long countIn, long speed) {
        events = new ArrayList<>();
        clock = 0;
        int first = state.firstBeat(bar);
        long length = beats.get(first).length;
        long shift = countIn * length - beats.get(first).begin;
        for (long k = 0; k < countIn; k++) {
            event(Math.floorDiv(k * length * 100, speed), false, false);
        }
        for (int number = first; number < beats.size(); number++) {
            Beat beat = beats.get(number);
            int division = state.bars.get(beat.bar).of[1];
            for (int click = 0; click < division; click++) {
                long time = beat.begin + Math.floorDiv(beat.length * click, division);
                event(Math.floorDiv((time + shift) * 100, speed), false, click == 0 && beat.accent == 1);
            }
        }
        for (int[] cue : state.cues) {
            if (cue[0] >= first) {
                long time = Math.floorDiv((state.cuePlace(beats, cue) + shift) * 100, speed) - cue[2] * 1000L;
                event(Math.max(time, 0), true, false);
            }
        }
        playedEnd = Math.floorDiv((state.end(beats) + shift) * 100, speed);
    }

    private void event(long time, boolean isCue, boolean isLoud) {
        Event event = new Event();
        event.time = time;
        event.isCue = isCue;
        event.isLoud = isLoud;
        events.add(event);
    }

    private long played(int what) {
        switch (what) {
            case 0:
                return clock;
            case 1:
                return playedEnd;
            case 2: case 3:
                return events.stream().filter(e -> e.isCue == (what == 3) && e.time >= clock)
                    .mapToLong(e -> e.time).min().orElse(-1);
            case 4: case 6:
                return events.stream().filter(e -> e.isCue == (what == 6) && e.time < clock).count();
            default:
                return events.stream().filter(e -> e.isLoud && e.time < clock).count();
        }
    }

    private long look(String name, long[] a) {
        switch (name) {
            case "bar":
                index(isBar(a[0]));
                argument(in(a[1], 0, 5));
                return a[1] == 5 ? state.firstBeat((int) a[0]) : state.bars.get((int) a[0]).of[(int) a[1]];
            case "beat":
                index(isBeat(a[0]));
                argument(in(a[1], 0, 6));
                Beat b = beats.get((int) a[0]);
                return new long[] {b.bar, b.place, b.tempo, b.natural, b.begin, b.length, b.accent}[(int) a[1]];
            case "click":
                index(isBeat(a[0]));
                Beat beat = beats.get((int) a[0]);
                int division = state.bars.get(beat.bar).of[1];
                index(in(a[1], 0, division - 1));
                return beat.begin + Math.floorDiv(beat.length * a[1], division);
            case "tempo":
                index(in(a[0], 0, state.marks.size() - 1));
                argument(in(a[1], 0, 2));
                int at = new ArrayList<>(state.marks.keySet()).get((int) a[0]);
                return a[1] == 0 ? at : state.marks.get(at)[(int) a[1] - 1];
            case "cueAt":
                index(in(a[0], 0, state.cues.size() - 1));
                argument(in(a[1], 0, 4));
                return cueAt((int) a[0], (int) a[1]);
            case "at":
                argument(in(a[1], 0, 2));
                return at(a[0], (int) a[1]);
            default:
                argument(in(a[0], 0, 11));
                return count((int) a[0]);
        }
    }

    private long cueAt(int cue, int what) {
        int[] of = state.cues.get(cue);
        if (what < 3) {
            return of[what];
        }
        long place = state.cuePlace(beats, of);
        if (what == 3) {
            return place;
        }
        long before = 0;
        for (int other = 0; other < state.cues.size(); other++) {
            long otherPlace = state.cuePlace(beats, state.cues.get(other));
            before += otherPlace < place || otherPlace == place && other < cue ? 1 : 0;
        }
        return before;
    }

    private long at(long time, int what) {
        if (time < 0 || time >= state.end(beats)) {
            return -1;
        }
        int number = beats.size() - 1;
        while (beats.get(number).begin > time) {
            number--;
        }
        Beat beat = beats.get(number);
        long since = time - beat.begin;
        return new long[] {number, Math.min(480, since * 480 / beat.length), since < beat.length ? 0 : 1}[what];
    }

    private long count(int what) {
        long clicks = 0;
        long pauses = 0;
        long[] lengths = {0, 0};
        for (Beat beat : beats) {
            int[] of = state.bars.get(beat.bar).of;
            clicks += of[1];
            pauses += beat.place == 0 ? of[3] * 1000L : 0;
            lengths[of[2] > 0 ? 0 : 1] += beat.length;
        }
        int kept = (images[0] != null ? 1 : 0) + (images[1] != null ? 2 : 0);
        long[] all = {state.bars.size(), beats.size(), state.marks.size(), state.cues.size(), clicks, state.end(beats), pauses,
            lengths[0], lengths[1], isPlaying() ? 1 : 0, history.size(), kept};
        return all[what];
    }

    private long ahead(String name, long[] a) {
        if (name.equals("ifMark")) {
            index(isBeat(a[0]));
            argument(in(a[1], 0, 287) && in(a[2], 200, 4000));
            State supposed = state.copy();
            supposed.marks.put((int) a[1], new int[] {(int) a[2], 1});
            return supposed.beats().get((int) a[0]).begin;
        }
        index(isBar(a[0]));
        argument(in(a[1], 1, 1000000000));
        return name.equals("bestSpeed") ? bestSpeed((int) a[0], a[1]) : rubberFor((int) a[0], a[1]);
    }

    private long bestSpeed(int bar, long target) {
        long whole = state.end(beats) - beats.get(state.firstBeat(bar)).begin;
        long best = -1;
        long least = Long.MAX_VALUE;
        for (int speed = 50; speed <= 200; speed++) {
            long off = Math.abs(Math.floorDiv(whole * 100, speed) - target);
            if (off < least) {
                least = off;
                best = speed;
            }
        }
        return best;
    }

    /** The end of the piece grows with the length: halving, with the whole piece laid out for each try. */
    private long rubberFor(int bar, long target) {
        int low = 100;
        int high = 60001;
        while (low < high) {
            int middle = (low + high) / 2;
            State supposed = state.copy();
            supposed.bars.get(bar).of[2] = middle;
            if (supposed.end(supposed.beats()) >= target) {
                high = middle;
            } else {
                low = middle + 1;
            }
        }
        return low == 60001 ? -1 : low;
    }

    private double meanTempo() {
        return state.bars.isEmpty() ? 0.0 : 60000000.0 * beats.size() / (double) state.end(beats);
    }

    private long digest() {
        List<Long> values = new ArrayList<>();
        values(values, 12, "count");
        values(values, 7, "playing");
        for (int bar = 0; bar < state.bars.size(); bar++) {
            values(values, 6, "bar", bar);
        }
        for (Beat b : beats) {
            values.addAll(List.of((long) b.tempo, b.natural, b.begin, b.length, (long) b.accent));
        }
        for (int mark = 0; mark < state.marks.size(); mark++) {
            values(values, 3, "tempo", mark);
        }
        for (int cue = 0; cue < state.cues.size(); cue++) {
            values(values, 5, "cueAt", cue);
        }
        values.add(Double.doubleToLongBits(meanTempo()));
        values.add((long) input.length());
        for (char code : input.toCharArray()) {
            values.add((long) code);
        }
        long hash = 2083;
        for (long value : values) {
            hash = 31 * hash + value;
        }
        return hash;
    }

    private void values(List<Long> values, int whats, String name, long... of) {
        for (int what = 0; what < whats; what++) {
            values.add(of.length == 0 ? answer(name, new long[] {what}) : answer(name, new long[] {of[0], what}));
        }
    }
}
