/** A metronome that plays a piece; README.md says how to use it. */
public final class TempoPlayer {
    public static final int NONE = -1;

    private static final int MOST_BARS = 24;
    private static final int MOST_BEATS = 288;
    /** Those of 288 beats with 8 each, and of a count-in of 8. */
    private static final int MOST_CLICKS = 2312;
    private static final int MOST_MARKS = 10;
    private static final int MOST_CUES = 12;
    private static final int MOST_STATES = 8;
    private static final int MOST_IMAGES = 2;
    private static final int MOST_INPUT = 60;
    private static final int LEAST_CODE = 32;
    private static final int MOST_CODE = 126;
    /** Of two characters each, and one more that a last ";" opens. */
    private static final int MOST_TEXT_BARS = MOST_INPUT / 2 + 1;

    private static final int BEATS = 0;
    private static final int DIVISION = 1;
    private static final int RUBBER = 2;
    private static final int PAUSE = 3;
    private static final int ACCENTS = 4;
    private static final int BAR_WIDTH = 5;
    private static final int FIRST_BEAT = 5;
    /** The ranges of a bar's properties; from the rubber length on 0 is allowed too, for none. */
    private static final int[] LEAST_VALUES = {1, 1, 100, 1, 1};
    private static final int[] MOST_VALUES = {12, 8, 60000, 20000, 4095};

    private static final int MARK_BEAT = 0;
    private static final int MARK_TEMPO = 1;
    private static final int MARK_GRADUAL = 2;
    private static final int MARK_WIDTH = 3;
    private static final int LEAST_TEMPO = 200;
    private static final int MOST_TEMPO = 4000;
    private static final int USUAL_TEMPO = 1200;
    private static final long NATURAL_LENGTH_TIMES_TEMPO = 600000000L;

    private static final int CUE_BEAT = 0;
    private static final int CUE_TICK = 1;
    private static final int CUE_LEAD = 2;
    private static final int CUE_WIDTH = 3;
    private static final int TICKS = 480;
    private static final int MOST_LEAD = 5000;

    private static final int MOST_COUNT_IN = 8;
    private static final int LEAST_SPEED = 50;
    private static final int MOST_SPEED = 200;
    private static final int MOST_ADVANCE = 60000;
    private static final long MOST_TARGET = 1000000000L;
    private static final long MICROSECONDS = 1000L;

    /** The greatest "what" of some calls. */
    private static final int LAST_OF_PLAYING = 6;
    private static final int LAST_OF_BEAT = 6;
    private static final int LAST_OF_CUE = 4;
    private static final int LAST_OF_COUNT = 11;

    private final Score score = new Score();
    private final Piece piece = score.piece;
    private final Playback playback = new Playback();
    private final History history = new History();
    private final Piece[] images = new Piece[MOST_IMAGES];
    private int keptImages;
    private final int[] input = new int[MOST_INPUT];
    private int inputLength;
    private final TextReader reader = new TextReader();
    /** The piece that ifMark supposes. */
    private final Score supposed = new Score();

    public TempoPlayer() {
        for (int image = 0; image < images.length; image++) {
            images[image] = new Piece();
        }
    }

    // ---- the piece

    public int begin() throws IllegalStateException {
        needNothingPlayed();
        int before = piece.bars.rows;
        history.remember(piece);
        piece.empty();
        score.settle();
        return before;
    }

    public int addBar(int beats, int division) throws IllegalArgumentException, IllegalStateException {
        needRange(beats, LEAST_VALUES[BEATS], MOST_VALUES[BEATS]);
        needRange(division, LEAST_VALUES[DIVISION], MOST_VALUES[DIVISION]);
        needNothingPlayed();
        needRoom(piece.bars, 1, MOST_BARS);
        history.remember(piece);
        appendBar(piece.bars, beats, division);
        score.settle();
        return piece.bars.rows - 1;
    }

    public int setBar(int bar, int what, int value)
            throws IndexOutOfBoundsException, IllegalArgumentException, IllegalStateException {
        needIndex(bar, piece.bars.rows);
        needIndex(what, BAR_WIDTH);
        if (value != 0 || what < RUBBER) {
            needRange(value, LEAST_VALUES[what], MOST_VALUES[what]);
        }
        needNothingPlayed();
        int before = piece.bars.cell(bar, what);
        history.remember(piece);
        piece.bars.put(bar, what, value);
        dropLostAccents(bar);
        score.settle();
        return before;
    }

    public int removeBar(int bar) throws IndexOutOfBoundsException, IllegalStateException {
        needIndex(bar, piece.bars.rows);
        needNothingPlayed();
        history.remember(piece);
        piece.bars.dropRow(bar);
        score.settle();
        return piece.bars.rows;
    }

    public int mark(int beat, int tempo, boolean gradual) throws IllegalArgumentException, IllegalStateException {
        needRange(beat, 0, MOST_BEATS - 1);
        needRange(tempo, LEAST_TEMPO, MOST_TEMPO);
        needNothingPlayed();
        if (!isMarkAt(piece.marks, markPlace(piece.marks, beat), beat)) {
            needRoom(piece.marks, 1, MOST_MARKS);
        }
        history.remember(piece);
        putMark(piece.marks, beat, tempo, gradual);
        score.settle();
        return piece.marks.rows;
    }

    public int removeMark(int mark) throws IndexOutOfBoundsException, IllegalStateException {
        needIndex(mark, piece.marks.rows);
        needNothingPlayed();
        history.remember(piece);
        piece.marks.dropRow(mark);
        score.settle();
        return piece.marks.rows;
    }

    public int cue(int beat, int tick, int lead)
            throws IndexOutOfBoundsException, IllegalArgumentException, IllegalStateException {
        needIndex(beat, score.beats);
        needRange(tick, 0, TICKS - 1);
        needRange(lead, 0, MOST_LEAD);
        needNothingPlayed();
        needRoom(piece.cues, 1, MOST_CUES);
        history.remember(piece);
        int number = piece.cues.rows;
        piece.cues.openRow(number);
        piece.cues.put(number, CUE_BEAT, beat);
        piece.cues.put(number, CUE_TICK, tick);
        piece.cues.put(number, CUE_LEAD, lead);
        return number;
    }

    public int removeCue(int cue) throws IndexOutOfBoundsException, IllegalStateException {
        needIndex(cue, piece.cues.rows);
        needNothingPlayed();
        history.remember(piece);
        piece.cues.dropRow(cue);
        return piece.cues.rows;
    }

    public int load() throws IllegalArgumentException, IllegalStateException {
        reader.read(input, inputLength);
        if (!reader.complete) {
            throw new IllegalArgumentException("the buffer is not a complete text");
        }
        needNothingPlayed();
        needRoom(piece.bars, reader.bars.rows, MOST_BARS);
        history.remember(piece);
        for (int bar = 0; bar < reader.bars.rows; bar++) {
            piece.bars.appendCopy(reader.bars, bar);
        }
        inputLength = 0;
        score.settle();
        return piece.bars.rows;
    }

    // ---- history and images

    public int undo() throws IllegalStateException {
        needNothingPlayed();
        if (history.states == 0) {
            throw new IllegalStateException("the history is empty");
        }
        history.takeBack(piece);
        score.settle();
        return history.states;
    }

    public int keep(int image) throws IndexOutOfBoundsException {
        needIndex(image, MOST_IMAGES);
        images[image].copyFrom(piece);
        keptImages |= 1 << image;
        return piece.bars.rows;
    }

    public int back(int image) throws IndexOutOfBoundsException, IllegalStateException {
        needIndex(image, MOST_IMAGES);
        needNothingPlayed();
        if (((keptImages >> image) & 1) == 0) {
            throw new IllegalStateException("the image keeps nothing");
        }
        history.remember(piece);
        piece.copyFrom(images[image]);
        score.settle();
        return piece.bars.rows;
    }

    // ---- input

    public int append(int code) throws IllegalArgumentException, IllegalStateException {
        needRange(code, LEAST_CODE, MOST_CODE);
        if (inputLength >= MOST_INPUT) {
            throw new IllegalStateException("the buffer is full");
        }
        input[inputLength] = code;
        inputLength++;
        return inputLength;
    }

    public int clearInput() {
        int before = inputLength;
        inputLength = 0;
        return before;
    }

    public int firstError() {
        reader.read(input, inputLength);
        return reader.taken;
    }

    // ---- playing

    public long start(int bar, int countIn, int speed)
            throws IndexOutOfBoundsException, IllegalArgumentException, IllegalStateException {
        needIndex(bar, piece.bars.rows);
        needRange(countIn, 0, MOST_COUNT_IN);
        needRange(speed, LEAST_SPEED, MOST_SPEED);
        needNothingPlayed();
        playback.open(score.firstBeatOf(bar), countIn, speed);
        return playback.playedEnd(score);
    }

    public int advance(int milliseconds) throws IllegalArgumentException, IllegalStateException {
        needRange(milliseconds, 1, MOST_ADVANCE);
        needSomethingPlayed();
        return playback.hear(score, milliseconds * MICROSECONDS);
    }

    public long stop() throws IllegalStateException {
        needSomethingPlayed();
        playback.on = false;
        return playback.clock;
    }

    public long playing(int what) throws IllegalArgumentException {
        needRange(what, 0, LAST_OF_PLAYING);
        if (!playback.on) {
            return NONE;
        }
        switch (what) {
            case 0:
                return playback.clock;
            case 1:
                return playback.playedEnd(score);
            case 2:
                return playback.nextClickTime(score);
            case 3:
                return playback.nextCueTime(score);
            case 4:
                return playback.clicksHeard;
            case 5:
                return playback.loudHeard;
            default:
                return playback.cuesHeard;
        }
    }

    // ---- what there is

    public int bar(int bar, int what) throws IndexOutOfBoundsException, IllegalArgumentException {
        needIndex(bar, piece.bars.rows);
        needRange(what, 0, FIRST_BEAT);
        return what == FIRST_BEAT ? score.firstBeatOf(bar) : piece.bars.cell(bar, what);
    }

    public long beat(int beat, int what) throws IndexOutOfBoundsException, IllegalArgumentException {
        needIndex(beat, score.beats);
        needRange(what, 0, LAST_OF_BEAT);
        switch (what) {
            case 0:
                return score.barOf(beat);
            case 1:
                return score.placeInBar(beat);
            case 2:
                return score.tempoOf(beat);
            case 3:
                return score.naturalOf(beat);
            case 4:
                return score.beginOf(beat);
            case 5:
                return score.lengthOf(beat);
            default:
                return score.accentOf(beat);
        }
    }

    public long click(int beat, int click) throws IndexOutOfBoundsException {
        needIndex(beat, score.beats);
        needIndex(click, score.divisionOf(beat));
        return score.clickTime(beat, click);
    }

    public int tempo(int mark, int what) throws IndexOutOfBoundsException, IllegalArgumentException {
        needIndex(mark, piece.marks.rows);
        needRange(what, 0, MARK_WIDTH - 1);
        return piece.marks.cell(mark, what);
    }

    public long cueAt(int cue, int what) throws IndexOutOfBoundsException, IllegalArgumentException {
        needIndex(cue, piece.cues.rows);
        needRange(what, 0, LAST_OF_CUE);
        if (what < CUE_WIDTH) {
            return piece.cues.cell(cue, what);
        }
        return what == 3 ? score.cuePlace(cue) : score.cuesBefore(cue);
    }

    public int at(long time, int what) throws IllegalArgumentException {
        needRange(what, 0, 2);
        if (time < 0 || time >= score.end) {
            return NONE;
        }
        int beat = score.beatAt(time);
        long since = time - score.beginOf(beat);
        if (what == 0) {
            return beat;
        }
        if (what == 1) {
            return (int) Math.min(quotient(since * TICKS, score.lengthOf(beat)), TICKS);
        }
        return since >= score.lengthOf(beat) ? 1 : 0;
    }

    public long count(int what) throws IllegalArgumentException {
        needRange(what, 0, LAST_OF_COUNT);
        switch (what) {
            case 0:
                return piece.bars.rows;
            case 1:
                return score.beats;
            case 2:
                return piece.marks.rows;
            case 3:
                return piece.cues.rows;
            case 4:
                return score.clicksOfPiece();
            case 5:
                return score.end;
            case 6:
                return score.sumOfPauses();
            case 7:
                return score.sumOfLengths(true);
            case 8:
                return score.sumOfLengths(false);
            case 9:
                return playback.on ? 1 : 0;
            case 10:
                return history.states;
            default:
                return keptImages;
        }
    }

    // ---- ahead; nothing changes

    public int bestSpeed(int bar, long target) throws IndexOutOfBoundsException, IllegalArgumentException {
        needIndex(bar, piece.bars.rows);
        needRange(target, 1, MOST_TARGET);
        long natural = score.end - score.beginOf(score.firstBeatOf(bar));
        int best = LEAST_SPEED;
        for (int speed = LEAST_SPEED + 1; speed <= MOST_SPEED; speed++) {
            if (distance(playedAt(natural, speed), target) < distance(playedAt(natural, best), target)) {
                best = speed;
            }
        }
        return best;
    }

    public int rubberFor(int bar, long target) throws IndexOutOfBoundsException, IllegalArgumentException {
        needIndex(bar, piece.bars.rows);
        needRange(target, 1, MOST_TARGET);
        long missing = target - (score.end - score.lengthOfBar(bar));
        long roundedUp = quotient(Math.max(missing, 0) + MICROSECONDS - 1, MICROSECONDS);
        long length = Math.max(roundedUp, LEAST_VALUES[RUBBER]);
        return length > MOST_VALUES[RUBBER] ? NONE : (int) length;
    }

    public long ifMark(int beat, int mark, int tempo) throws IndexOutOfBoundsException, IllegalArgumentException {
        needIndex(beat, score.beats);
        needRange(mark, 0, MOST_BEATS - 1);
        needRange(tempo, LEAST_TEMPO, MOST_TEMPO);
        supposed.piece.copyFrom(piece);
        putMark(supposed.piece.marks, mark, tempo, true);
        supposed.settle();
        return supposed.beginOf(beat);
    }

    public double meanTempo() {
        if (score.end <= 0) {
            return 0.0;
        }
        return 60000000.0 * score.beats / (double) score.end;
    }

    public long digest() {
        long hash = 2083;
        for (int what = 0; what <= LAST_OF_COUNT; what++) {
            hash = 31 * hash + count(what);
        }
        for (int what = 0; what <= LAST_OF_PLAYING; what++) {
            hash = 31 * hash + playing(what);
        }
        hash = digestOfPiece(hash);
        hash = 31 * hash + bitsOf(meanTempo());
        hash = 31 * hash + inputLength;
        for (int index = 0; index < inputLength; index++) {
            hash = 31 * hash + input[index];
        }
        return hash;
    }

    private long digestOfPiece(long hash) {
        for (int bar = 0; bar < piece.bars.rows; bar++) {
            for (int what = 0; what <= FIRST_BEAT; what++) {
                hash = 31 * hash + bar(bar, what);
            }
        }
        for (int beat = 0; beat < score.beats; beat++) {
            for (int what = 2; what <= LAST_OF_BEAT; what++) {
                hash = 31 * hash + beat(beat, what);
            }
        }
        for (int mark = 0; mark < piece.marks.rows; mark++) {
            for (int what = 0; what < MARK_WIDTH; what++) {
                hash = 31 * hash + tempo(mark, what);
            }
        }
        for (int cue = 0; cue < piece.cues.rows; cue++) {
            for (int what = 0; what <= LAST_OF_CUE; what++) {
                hash = 31 * hash + cueAt(cue, what);
            }
        }
        return hash;
    }

    // ---- what calls need

    private static void needIndex(int index, int size) throws IndexOutOfBoundsException {
        if (index < 0 || index >= size) {
            throw new IndexOutOfBoundsException("there is no such number");
        }
    }

    private static void needRange(long value, long least, long most) throws IllegalArgumentException {
        if (value < least || value > most) {
            throw new IllegalArgumentException("an argument is out of range");
        }
    }

    private static void needRoom(Table table, int more, int most) throws IllegalStateException {
        if (table.rows + more > most) {
            throw new IllegalStateException("there is no room for more");
        }
    }

    private void needNothingPlayed() throws IllegalStateException {
        if (playback.on) {
            throw new IllegalStateException("something is played");
        }
    }

    private void needSomethingPlayed() throws IllegalStateException {
        if (!playback.on) {
            throw new IllegalStateException("nothing is played");
        }
    }

    // ---- changes

    private void dropLostAccents(int bar) {
        int ofItsBeats = (1 << piece.bars.cell(bar, BEATS)) - 1;
        piece.bars.put(bar, ACCENTS, piece.bars.cell(bar, ACCENTS) & ofItsBeats);
    }

    private static void appendBar(Table bars, int beats, int division) {
        int bar = bars.rows;
        bars.openRow(bar);
        bars.put(bar, BEATS, beats);
        bars.put(bar, DIVISION, division);
        bars.put(bar, RUBBER, 0);
        bars.put(bar, PAUSE, 0);
        bars.put(bar, ACCENTS, 1);
    }

    /** The number that a mark at this beat has, or would have. */
    private static int markPlace(Table marks, int beat) {
        int place = 0;
        while (place < marks.rows && marks.cell(place, MARK_BEAT) < beat) {
            place++;
        }
        return place;
    }

    private static boolean isMarkAt(Table marks, int mark, int beat) {
        return mark < marks.rows && marks.cell(mark, MARK_BEAT) == beat;
    }

    private static void putMark(Table marks, int beat, int tempo, boolean gradual) {
        int place = markPlace(marks, beat);
        if (!isMarkAt(marks, place, beat)) {
            marks.openRow(place);
        }
        marks.put(place, MARK_BEAT, beat);
        marks.put(place, MARK_TEMPO, tempo);
        marks.put(place, MARK_GRADUAL, gradual ? 1 : 0);
    }

    // ---- arithmetic

    /** Cuts towards 0, as a tempo wants it; of times, which are not negative, that is down. */
    private static long quotient(long value, long divisor) {
        return divisor > 0 ? value / divisor : 0;
    }

    private static long playedAt(long time, int speed) {
        return quotient(time * 100, speed);
    }

    private static long distance(long one, long other) {
        return one < other ? other - one : one - other;
    }

    /**
     * What Double.doubleToLongBits answers, which LANGUAGE.md does not list; for 0.0 and for ordinary
     * positive numbers alone, as the mean tempo is 0.0 or between 0.75 and 7200.
     */
    private static long bitsOf(double value) {
        if (value <= 0.0) {
            return 0;
        }
        double fraction = value;
        long exponent = 1023;
        while (fraction >= 2.0 && exponent < 2046) {
            fraction = fraction / 2.0;
            exponent++;
        }
        while (fraction < 1.0 && exponent > 1) {
            fraction = fraction * 2.0;
            exponent--;
        }
        return (exponent << 52) + (long) ((fraction - 1.0) * 4503599627370496.0);
    }

    /** Rows of numbers, made once for the most of them; a cell that it does not have reads as 0. */
    private static final class Table {
        final int most;
        final int width;
        final int[] cells;
        int rows;

        Table(int most, int width) {
            this.most = most;
            this.width = width;
            this.cells = new int[Math.max(most * width, 0)];
        }

        int cell(int row, int column) {
            if (row < 0 || row >= rows || column < 0 || column >= width) {
                return 0;
            }
            return cells[row * width + column];
        }

        void put(int row, int column, int value) {
            if (row >= 0 && row < rows && column >= 0 && column < width) {
                cells[row * width + column] = value;
            }
        }

        /** Moves the rows from this one on; what the new row holds is for the caller to put. */
        void openRow(int row) {
            if (row < 0 || row > rows || rows >= most) {
                return;
            }
            System.arraycopy(cells, row * width, cells, (row + 1) * width, (rows - row) * width);
            rows++;
        }

        void dropRow(int row) {
            if (row < 0 || row >= rows) {
                return;
            }
            rows--;
            System.arraycopy(cells, (row + 1) * width, cells, row * width, (rows - row) * width);
        }

        void appendCopy(Table other, int row) {
            openRow(rows);
            for (int column = 0; column < width; column++) {
                put(rows - 1, column, other.cell(row, column));
            }
        }

        void copyFrom(Table other) {
            rows = Math.min(other.rows, most);
            System.arraycopy(other.cells, 0, cells, 0, rows * width);
        }
    }

    /** What the history and the images keep. */
    private static final class Piece {
        final Table bars = new Table(MOST_BARS, BAR_WIDTH);
        /** With one more than a piece may have, for ifMark. */
        final Table marks = new Table(MOST_MARKS + 1, MARK_WIDTH);
        final Table cues = new Table(MOST_CUES, CUE_WIDTH);

        void empty() {
            bars.rows = 0;
            marks.rows = 0;
            cues.rows = 0;
        }

        void copyFrom(Piece other) {
            bars.copyFrom(other.bars);
            marks.copyFrom(other.marks);
            cues.copyFrom(other.cues);
        }
    }

    private static final class History {
        private final Piece[] kept = new Piece[MOST_STATES];
        int states;

        History() {
            for (int state = 0; state < kept.length; state++) {
                kept[state] = new Piece();
            }
        }

        void remember(Piece present) {
            if (states >= kept.length) {
                moveOldestToEnd();
                states = kept.length - 1;
            }
            kept[states].copyFrom(present);
            states++;
        }

        private void moveOldestToEnd() {
            Piece oldest = kept[0];
            for (int state = 1; state < kept.length; state++) {
                kept[state - 1] = kept[state];
            }
            kept[kept.length - 1] = oldest;
        }

        void takeBack(Piece present) {
            if (states > 0 && states <= kept.length) {
                states--;
                present.copyFrom(kept[states]);
            }
        }
    }

    /** A piece with where its beats are; a beat that it does not have reads as 0. */
    private static final class Score {
        final Piece piece = new Piece();
        private final int[] firstBeats = new int[MOST_BARS];
        private final int[] barsOfBeats = new int[MOST_BEATS];
        private final int[] tempos = new int[MOST_BEATS];
        private final long[] begins = new long[MOST_BEATS];
        private final long[] lengths = new long[MOST_BEATS];
        int beats;
        long end;

        /** For after each change: works out the beats anew, and removes the cues that lost theirs by it. */
        void settle() {
            numberBeats();
            setTempos();
            placeBars();
            for (int cue = piece.cues.rows - 1; cue >= 0; cue--) {
                if (piece.cues.cell(cue, CUE_BEAT) >= beats) {
                    piece.cues.dropRow(cue);
                }
            }
        }

        private void numberBeats() {
            beats = 0;
            for (int bar = 0; bar < piece.bars.rows && bar < MOST_BARS; bar++) {
                firstBeats[bar] = beats;
                int after = Math.min(beats + piece.bars.cell(bar, BEATS), MOST_BEATS);
                while (beats < after) {
                    barsOfBeats[beats] = bar;
                    beats++;
                }
            }
        }

        private void setTempos() {
            int latest = NONE;
            for (int beat = 0; beat < beats; beat++) {
                while (latest + 1 < piece.marks.rows && piece.marks.cell(latest + 1, MARK_BEAT) <= beat) {
                    latest++;
                }
                tempos[beat] = latest == NONE ? USUAL_TEMPO : tempoUnder(latest, beat);
            }
        }

        private int tempoUnder(int mark, int beat) {
            Table marks = piece.marks;
            int tempo = marks.cell(mark, MARK_TEMPO);
            if (marks.cell(mark, MARK_GRADUAL) == 0 || mark + 1 >= marks.rows) {
                return tempo;
            }
            long change = marks.cell(mark + 1, MARK_TEMPO) - tempo;
            int from = marks.cell(mark, MARK_BEAT);
            int distance = marks.cell(mark + 1, MARK_BEAT) - from;
            return tempo + (int) quotient(change * (beat - from), distance);
        }

        private void placeBars() {
            end = 0;
            for (int bar = 0; bar < piece.bars.rows; bar++) {
                int first = firstBeatOf(bar);
                int after = Math.min(first + piece.bars.cell(bar, BEATS), beats);
                placeBeats(first, after, piece.bars.cell(bar, RUBBER) * MICROSECONDS);
                end += piece.bars.cell(bar, PAUSE) * MICROSECONDS;
            }
        }

        /** A bar that is no rubber bar is stretched too: to its own natural length, which changes nothing. */
        private void placeBeats(int first, int after, long rubber) {
            long natural = 0;
            for (int beat = first; beat < after; beat++) {
                natural += naturalOf(beat);
            }
            long length = rubber > 0 ? rubber : natural;
            long sum = 0;
            long begun = 0;
            for (int beat = first; beat < after; beat++) {
                sum += naturalOf(beat);
                long ended = quotient(length * sum, natural);
                begins[beat] = end + begun;
                lengths[beat] = ended - begun;
                begun = ended;
            }
            end += length;
        }

        int firstBeatOf(int bar) {
            return bar >= 0 && bar < MOST_BARS ? firstBeats[bar] : 0;
        }

        int barOf(int beat) {
            return beat >= 0 && beat < beats ? barsOfBeats[beat] : 0;
        }

        int placeInBar(int beat) {
            return beat - firstBeatOf(barOf(beat));
        }

        int tempoOf(int beat) {
            return beat >= 0 && beat < beats ? tempos[beat] : 0;
        }

        long naturalOf(int beat) {
            return quotient(NATURAL_LENGTH_TIMES_TEMPO, tempoOf(beat));
        }

        long beginOf(int beat) {
            return beat >= 0 && beat < beats ? begins[beat] : 0;
        }

        long lengthOf(int beat) {
            return beat >= 0 && beat < beats ? lengths[beat] : 0;
        }

        int accentOf(int beat) {
            return (piece.bars.cell(barOf(beat), ACCENTS) >> placeInBar(beat)) & 1;
        }

        int divisionOf(int beat) {
            return piece.bars.cell(barOf(beat), DIVISION);
        }

        long clickTime(int beat, int click) {
            return beginOf(beat) + quotient(lengthOf(beat) * click, divisionOf(beat));
        }

        /** The latest beat that has begun at this time. */
        int beatAt(long time) {
            int beat = 0;
            while (beat + 1 < beats && beginOf(beat + 1) <= time) {
                beat++;
            }
            return beat;
        }

        long cuePlace(int cue) {
            int beat = piece.cues.cell(cue, CUE_BEAT);
            return beginOf(beat) + quotient(lengthOf(beat) * piece.cues.cell(cue, CUE_TICK), TICKS);
        }

        long cuesBefore(int cue) {
            long place = cuePlace(cue);
            long before = 0;
            for (int other = 0; other < piece.cues.rows; other++) {
                long otherPlace = cuePlace(other);
                if (otherPlace < place || otherPlace == place && other < cue) {
                    before++;
                }
            }
            return before;
        }

        long clicksOfPiece() {
            long sum = 0;
            for (int bar = 0; bar < piece.bars.rows; bar++) {
                sum += piece.bars.cell(bar, BEATS) * piece.bars.cell(bar, DIVISION);
            }
            return sum;
        }

        long sumOfPauses() {
            long sum = 0;
            for (int bar = 0; bar < piece.bars.rows; bar++) {
                sum += piece.bars.cell(bar, PAUSE) * MICROSECONDS;
            }
            return sum;
        }

        long sumOfLengths(boolean ofRubberBars) {
            long sum = 0;
            for (int bar = 0; bar < piece.bars.rows; bar++) {
                boolean isRubberBar = piece.bars.cell(bar, RUBBER) > 0;
                if (isRubberBar == ofRubberBars) {
                    sum += lengthOfBar(bar);
                }
            }
            return sum;
        }

        /** Without its pause. */
        long lengthOfBar(int bar) {
            int first = firstBeatOf(bar);
            int last = first + piece.bars.cell(bar, BEATS) - 1;
            return beginOf(last) + lengthOf(last) - beginOf(first);
        }
    }

    /** How a score is played, and how far it has been heard; the score does not change meanwhile. */
    private static final class Playback {
        private int firstBeat;
        private int countIn;
        private int speed;
        private int countInHeard;
        private int nextBeat;
        private int nextClick;
        boolean on;
        long clock;
        int clicksHeard;
        int loudHeard;
        int cuesHeard;

        void open(int beat, int countInBeats, int percent) {
            firstBeat = beat;
            countIn = countInBeats;
            speed = percent;
            countInHeard = 0;
            nextBeat = beat;
            nextClick = 0;
            on = true;
            clock = 0;
            clicksHeard = 0;
            loudHeard = 0;
            cuesHeard = 0;
        }

        long playedEnd(Score score) {
            return playedTime(score, score.end);
        }

        private long playedTime(Score score, long time) {
            return playedAt(countIn * score.lengthOf(firstBeat) + time - score.beginOf(firstBeat), speed);
        }

        long nextClickTime(Score score) {
            if (countInHeard < countIn) {
                return playedAt(countInHeard * score.lengthOf(firstBeat), speed);
            }
            return nextBeat < score.beats ? playedTime(score, score.clickTime(nextBeat, nextClick)) : NONE;
        }

        private boolean isPlayed(Score score, int cue) {
            return score.piece.cues.cell(cue, CUE_BEAT) >= firstBeat;
        }

        private long cueTime(Score score, int cue) {
            long lead = score.piece.cues.cell(cue, CUE_LEAD) * MICROSECONDS;
            return Math.max(playedTime(score, score.cuePlace(cue)) - lead, 0);
        }

        /** The least time from the clock on, as all before it has been heard. */
        long nextCueTime(Score score) {
            long least = NONE;
            for (int cue = 0; cue < score.piece.cues.rows; cue++) {
                long time = cueTime(score, cue);
                if (isPlayed(score, cue) && time >= clock && (least == NONE || time < least)) {
                    least = time;
                }
            }
            return least;
        }

        /** Answers how many clicks and cues are heard in that. */
        int hear(Score score, long microseconds) {
            long after = clock + microseconds;
            int heard = hearClicks(score, after) + hearCues(score, after);
            clock = after;
            on = after < playedEnd(score);
            return heard;
        }

        private int hearClicks(Score score, long after) {
            int heard = 0;
            while (heard < MOST_CLICKS && isBefore(nextClickTime(score), after)) {
                hearClick(score);
                heard++;
            }
            clicksHeard += heard;
            return heard;
        }

        private static boolean isBefore(long time, long after) {
            return time != NONE && time < after;
        }

        private void hearClick(Score score) {
            if (countInHeard < countIn) {
                countInHeard++;
                return;
            }
            if (nextClick == 0) {
                loudHeard += score.accentOf(nextBeat);
            }
            nextClick++;
            if (nextClick >= score.divisionOf(nextBeat)) {
                nextClick = 0;
                nextBeat++;
            }
        }

        private int hearCues(Score score, long after) {
            int heard = 0;
            for (int cue = 0; cue < score.piece.cues.rows; cue++) {
                long time = cueTime(score, cue);
                if (isPlayed(score, cue) && time >= clock && time < after) {
                    heard++;
                }
            }
            cuesHeard += heard;
            return heard;
        }
    }

    /** Reads a text, character by character, up to the first one that no text has there. */
    private static final class TextReader {
        final Table bars = new Table(MOST_TEXT_BARS, BAR_WIDTH);
        /** How many characters are no syntax errors. */
        int taken;
        boolean complete;
        /** Which property the present number is of, as for setBar. */
        private int what;
        private int number;

        void read(int[] codes, int length) {
            bars.rows = 0;
            openBar();
            taken = 0;
            while (taken < length && taken < codes.length && take(codes[taken])) {
                taken++;
            }
            complete = taken == length && isNumberWhole();
        }

        private void openBar() {
            appendBar(bars, 0, 1);
            what = BEATS;
            number = 0;
        }

        private boolean isNumberWhole() {
            return number >= LEAST_VALUES[what];
        }

        private boolean take(int code) {
            if (code >= '0' && code <= '9') {
                return takeDigit(code - '0');
            }
            if (!isNumberWhole()) {
                return false;
            }
            if (code == ';') {
                openBar();
                return true;
            }
            return takeLetter(code);
        }

        /** Each number up to the greatest is, or begins, one in the range. */
        private boolean takeDigit(int digit) {
            int longer = number * 10 + digit;
            if (longer == 0 || longer > MOST_VALUES[what]) {
                return false;
            }
            number = longer;
            bars.put(bars.rows - 1, what, number);
            return true;
        }

        private boolean takeLetter(int code) {
            int next = code == 'd' ? DIVISION : code == 'r' ? RUBBER : code == 'p' ? PAUSE : BEATS;
            if (next <= what) {
                return false;
            }
            what = next;
            number = 0;
            return true;
        }
    }
}
