/**
 * The receiver of an audio stream: a playout buffer. Frames of samples and interleaved parity packets arrive in
 * any order, late, or never; missing frames are restored from parity; samples are played one per tick, in the order
 * of the frames; frames that are missing when they are due are concealed; the delay adapts to a quantile of the
 * latest transit times by stretching and compressing frames.
 */
public final class PlayoutBuffer {
    /** An argument is out of its range, or names something that does not exist. */
    public static final int BAD_VALUE = -1001;
    /** There is no room. */
    public static final int FULL = -1002;
    /** The call is not possible now. */
    public static final int NOT_POSSIBLE = -1003;
    /** There is no such thing; not an error. */
    public static final int NONE = -1004;
    /** Kinds of frames that were taken. */
    public static final int PLAYED = 1, RESTORED = 2, CONCEALED = 3;

    private static final int LAST_FRAME = 999;
    private static final int LEAST_TRANSIT = -999;
    private static final int LONGEST_ADVANCE = 500;
    private static final int GAP_FORECAST = 1000;
    private static final int FRAME_FORECAST = 2000;
    private static final int SLOTS = 2;

    private final Receiver receiver = new Receiver();
    // Predictions let time pass in this copy, so that nothing is changed and no call makes objects of its own.
    private final Receiver forecast = new Receiver();
    private final Receiver[] slots = new Receiver[SLOTS];
    private final ArrivalText text = new ArrivalText();
    private final Arrivals described = new Arrivals();

    public PlayoutBuffer() {
    }

    // ---- settings

    public int setFrame(int samples) {
        if (samples < Settings.LEAST_SAMPLES || samples > Settings.MOST_SAMPLES) {
            return BAD_VALUE;
        }
        if (receiver.hasBegun()) {
            return NOT_POSSIBLE;
        }
        int previous = receiver.settings.samples;
        receiver.settings.samples = samples;
        return previous;
    }

    public int setWave(int period, int slope) {
        if (period < 2 || period > 32 || slope < 1 || slope > 200) {
            return BAD_VALUE;
        }
        if (receiver.hasBegun()) {
            return NOT_POSSIBLE;
        }
        int previous = 1000 * receiver.settings.period + receiver.settings.slope;
        receiver.settings.period = period;
        receiver.settings.slope = slope;
        return previous;
    }

    public int setBlock(int columns, int rows) {
        if (columns < Settings.LEAST_SIDE || columns > Settings.MOST_SIDE
                || rows < Settings.LEAST_SIDE || rows > Settings.MOST_SIDE) {
            return BAD_VALUE;
        }
        if (receiver.hasBegun()) {
            return NOT_POSSIBLE;
        }
        int previous = 10 * receiver.settings.columns + receiver.settings.rows;
        receiver.settings.columns = columns;
        receiver.settings.rows = rows;
        return previous;
    }

    public int setInitialDelay(int ticks) {
        if (ticks < 0 || ticks > 200) {
            return BAD_VALUE;
        }
        if (receiver.hasBegun()) {
            return NOT_POSSIBLE;
        }
        int previous = receiver.settings.initialDelay;
        receiver.settings.initialDelay = ticks;
        return previous;
    }

    public int setQuantile(int quantile) {
        if (quantile < 1 || quantile > 100) {
            return BAD_VALUE;
        }
        int previous = receiver.settings.quantile;
        receiver.settings.quantile = quantile;
        return previous;
    }

    public int setMargin(int margin) {
        if (margin < 0 || margin > 100) {
            return BAD_VALUE;
        }
        int previous = receiver.settings.margin;
        receiver.settings.margin = margin;
        return previous;
    }

    public int setAdapting(boolean on) {
        int previous = receiver.settings.adapting ? 1 : 0;
        receiver.settings.adapting = on;
        return previous;
    }

    // ---- arrivals and time

    public int arrive(int frame) {
        if (!isFrame(frame)) {
            return BAD_VALUE;
        }
        return receiver.acceptFrame(frame);
    }

    public int arriveParity(boolean row, int block, int index) {
        if (!receiver.settings.hasPacket(row, block, index)) {
            return BAD_VALUE;
        }
        return receiver.acceptPacket(row, block, index);
    }

    public int advance(int ticks) {
        if (ticks < 1 || ticks > LONGEST_ADVANCE) {
            return BAD_VALUE;
        }
        int before = receiver.player.outputs;
        for (int tick = 0; tick < ticks; tick++) {
            receiver.passTick();
        }
        return receiver.player.outputs - before;
    }

    public int time() {
        return receiver.time;
    }

    public int start() {
        return receiver.started ? receiver.start : NONE;
    }

    // ---- output

    public int output(int back) {
        if (back < 1 || back > Player.KEPT_OUTPUTS) {
            return BAD_VALUE;
        }
        return back > receiver.player.outputs ? NONE : receiver.player.outputAt(back);
    }

    public int outputs() {
        return receiver.player.outputs;
    }

    public int left() {
        return receiver.player.remaining();
    }

    public int next() {
        return receiver.player.next > LAST_FRAME ? NONE : receiver.player.next;
    }

    public int kind(int back) {
        if (back < 1 || back > Player.KEPT_KINDS) {
            return BAD_VALUE;
        }
        return back > receiver.player.next ? NONE : receiver.player.kindAt(back);
    }

    // ---- frames and parity

    public int state(int frame) {
        if (!isFrame(frame)) {
            return BAD_VALUE;
        }
        return receiver.frames.stateOf(receiver.settings, frame);
    }

    public int sample(int frame, int index) {
        if (!isFrame(frame) || index < 0 || index >= receiver.settings.samples) {
            return BAD_VALUE;
        }
        return receiver.settings.waveAt(frame, index);
    }

    public int missing(boolean row, int block, int index) {
        if (!receiver.settings.hasPacket(row, block, index)) {
            return BAD_VALUE;
        }
        return receiver.frames.missingIn(receiver.settings, row, block, index);
    }

    public int unrestorable(int block) {
        if (!receiver.settings.hasBlock(block)) {
            return BAD_VALUE;
        }
        return receiver.frames.unrestorableIn(receiver.settings, block);
    }

    public int paritySample(boolean row, int block, int index, int place) {
        Settings settings = receiver.settings;
        if (!settings.hasPacket(row, block, index) || place < 0 || place >= settings.samples) {
            return BAD_VALUE;
        }
        int length = row ? settings.columns : settings.rows;
        int parity = 0;
        for (int i = 0; i < length; i++) {
            int frame = settings.coveredFrame(row, block, index, i);
            if (frame <= LAST_FRAME) {
                parity ^= settings.waveAt(frame, place) + 128;
            }
        }
        return parity;
    }

    // ---- delay

    public int transits() {
        return receiver.transits.count;
    }

    public int transit(int index) {
        if (index < 0 || index >= receiver.transits.count) {
            return BAD_VALUE;
        }
        return Math.max(LEAST_TRANSIT, receiver.transits.ascendingAt(index));
    }

    public int target() {
        return receiver.targetNow();
    }

    public int level() {
        return receiver.levelFrom(receiver.player.next);
    }

    // ---- counters

    public int taken(int kind) {
        if (kind < PLAYED || kind > CONCEALED) {
            return BAD_VALUE;
        }
        return receiver.counters.takenAs(kind);
    }

    public int stretched() {
        return receiver.counters.stretched;
    }

    public int compressed() {
        return receiver.counters.compressed;
    }

    public int late() {
        return receiver.counters.late;
    }

    public int duplicates() {
        return receiver.counters.duplicates;
    }

    public int loss(boolean denominator) {
        int concealed = receiver.counters.concealed;
        int all = receiver.player.next;
        if (all == 0) {
            return denominator ? 1 : 0;
        }
        int divisor = Math.max(1, commonDivisor(all, concealed));
        return (denominator ? all : concealed) / divisor;
    }

    public int longestGap() {
        return receiver.counters.longestGap;
    }

    // ---- predictions

    public int ticksToGap() {
        forecast.copyFrom(receiver);
        int before = forecast.counters.concealed;
        for (int tick = 0; tick < GAP_FORECAST; tick++) {
            forecast.passTick();
            if (forecast.counters.concealed > before) {
                return tick;
            }
        }
        return NONE;
    }

    public int gapsIn(int ticks) {
        if (ticks < 1 || ticks > GAP_FORECAST) {
            return BAD_VALUE;
        }
        forecast.copyFrom(receiver);
        int before = forecast.counters.concealed;
        for (int tick = 0; tick < ticks; tick++) {
            forecast.passTick();
        }
        return forecast.counters.concealed - before;
    }

    public int ticksToFrame(int frame) {
        if (!isFrame(frame)) {
            return BAD_VALUE;
        }
        if (frame < receiver.player.next) {
            return NOT_POSSIBLE;
        }
        forecast.copyFrom(receiver);
        for (int tick = 0; tick < FRAME_FORECAST; tick++) {
            forecast.passTick();
            if (forecast.player.next > frame) {
                return tick;
            }
        }
        return NONE;
    }

    // ---- texts and schedule

    public int append(int character) {
        if (character < 32 || character > 126) {
            return BAD_VALUE;
        }
        if (text.length >= ArrivalText.MOST_CHARACTERS) {
            return FULL;
        }
        text.write(character);
        return text.length;
    }

    public int clearText() {
        int previous = text.length;
        text.length = 0;
        return previous;
    }

    public int faultPosition() {
        return text.readInto(described);
    }

    public int schedule() {
        if (text.readInto(described) != NONE) {
            return NOT_POSSIBLE;
        }
        for (int i = 0; i < described.size; i++) {
            if (!canArrive(i)) {
                return BAD_VALUE;
            }
        }
        if (receiver.schedule.size + described.size > Arrivals.MOST) {
            return FULL;
        }
        receiver.schedule.addAll(described);
        return described.size;
    }

    public int scheduled() {
        return receiver.schedule.size;
    }

    // ---- slots, checksum

    public int keep(int slot) {
        if (slot < 0 || slot >= SLOTS) {
            return BAD_VALUE;
        }
        if (slots[slot] == null) {
            slots[slot] = new Receiver();
        }
        slots[slot].copyFrom(receiver);
        return receiver.time;
    }

    public int restore(int slot) {
        if (slot < 0 || slot >= SLOTS) {
            return BAD_VALUE;
        }
        if (slots[slot] == null) {
            return NOT_POSSIBLE;
        }
        receiver.copyFrom(slots[slot]);
        return receiver.time;
    }

    public long checksum() {
        long h = 41;
        h = 31 * h + time();
        h = 31 * h + start();
        h = 31 * h + outputs();
        h = 31 * h + left();
        h = 31 * h + next();
        h = 31 * h + target();
        h = 31 * h + level();
        h = 31 * h + transits();
        for (int kind = PLAYED; kind <= CONCEALED; kind++) {
            h = 31 * h + taken(kind);
        }
        h = 31 * h + stretched();
        h = 31 * h + compressed();
        h = 31 * h + late();
        h = 31 * h + duplicates();
        h = 31 * h + longestGap();
        h = 31 * h + scheduled();
        for (int back = 1; back <= 64; back++) {
            h = 31 * h + output(back);
        }
        for (int back = 1; back <= 16; back++) {
            h = 31 * h + kind(back);
        }
        for (int frame = 0; frame <= 99; frame++) {
            h = 31 * h + state(frame);
        }
        return h;
    }

    private static boolean isFrame(int number) {
        return number >= 0 && number <= LAST_FRAME;
    }

    /** Whether arrival i of the text names what exists, at a time that is still to come. */
    private boolean canArrive(int i) {
        if (described.times[i] <= receiver.time) {
            return false;
        }
        int number = described.numbers[i];
        if (described.kinds[i] == Arrivals.FRAME) {
            return isFrame(number);
        }
        return receiver.settings.hasPacket(described.kinds[i] == Arrivals.ROW, number, described.indexes[i]);
    }

    /** The greatest common divisor of a number above 0 and one that is not negative. */
    private static int commonDivisor(int positive, int other) {
        int a = positive;
        int b = other;
        // Euclid's steps halve the numbers every second time, so 64 are enough for any int.
        for (int step = 0; step < 64 && b != 0; step++) {
            int rest = a % b;
            a = b;
            b = rest;
        }
        return a;
    }

    /** What the setters set, and what follows from it for frames, blocks and packets. */
    private static final class Settings {
        private static final int LEAST_SAMPLES = 4;
        private static final int MOST_SAMPLES = 16;
        private static final int LEAST_SIDE = 2;
        private static final int MOST_SIDE = 6;

        int samples = 8;
        int period = 16;
        int slope = 25;
        int columns = 4;
        int rows = 4;
        int initialDelay = 16;
        int quantile = 90;
        int margin = 8;
        boolean adapting = true;

        void copyFrom(Settings other) {
            samples = other.samples;
            period = other.period;
            slope = other.slope;
            columns = other.columns;
            rows = other.rows;
            initialDelay = other.initialDelay;
            quantile = other.quantile;
            margin = other.margin;
            adapting = other.adapting;
        }

        int waveAt(int frame, int index) {
            int place = (frame * samples + index) % period;
            return slope * place % 201 - 100;
        }

        /** The number of frames of a block. */
        int cells() {
            return columns * rows;
        }

        boolean hasBlock(int block) {
            return block >= 0 && block <= LAST_FRAME / cells();
        }

        boolean hasPacket(boolean row, int block, int index) {
            return hasBlock(block) && index >= 0 && index < (row ? rows : columns);
        }

        /** Frame i of those that a packet covers; in the last block it may be above the last frame. */
        int coveredFrame(boolean row, int block, int index, int i) {
            int cell = row ? index * columns + i : i * columns + index;
            return block * cells() + cell;
        }
    }

    /**
     * Which frames and parity packets have arrived, and which frames are known. A block has at most 36 frames: each
     * has a bit in the block's longs.
     */
    private static final class Frames {
        private static final int MOST_BLOCKS = (LAST_FRAME + 1) / (Settings.LEAST_SIDE * Settings.LEAST_SIDE);
        private static final int MOST_CELLS = Settings.MOST_SIDE * Settings.MOST_SIDE;
        private static final int ALL_PACKETS = -1;

        private final long[] known = new long[MOST_BLOCKS];
        private final long[] arrived = new long[MOST_BLOCKS];
        private final int[] packets = new int[MOST_BLOCKS];

        void copyFrom(Frames other) {
            System.arraycopy(other.known, 0, known, 0, MOST_BLOCKS);
            System.arraycopy(other.arrived, 0, arrived, 0, MOST_BLOCKS);
            System.arraycopy(other.packets, 0, packets, 0, MOST_BLOCKS);
        }

        /** 2 if the frame has arrived, 1 if it is known otherwise, 0 if not. */
        int stateOf(Settings settings, int frame) {
            int block = frame / settings.cells();
            int cell = frame % settings.cells();
            if ((arrived[block] >> cell & 1L) != 0) {
                return 2;
            }
            return (known[block] >> cell & 1L) != 0 ? 1 : 0;
        }

        boolean hasPacket(boolean row, int block, int index) {
            return (packets[block] & packetBit(row, index)) != 0;
        }

        void addFrame(Settings settings, int frame) {
            int block = frame / settings.cells();
            long bit = 1L << frame % settings.cells();
            arrived[block] |= bit;
            known[block] |= bit;
        }

        void addPacket(boolean row, int block, int index) {
            packets[block] |= packetBit(row, index);
        }

        /** Restores what the packets of a block can restore, and answers how many frames that were. */
        int restoreIn(Settings settings, int block) {
            long before = knownIn(settings, block);
            long after = completed(settings, before, packets[block]);
            known[block] = after;
            return Long.bitCount(after & ~before);
        }

        int missingIn(Settings settings, boolean row, int block, int index) {
            return Long.bitCount(lineBits(settings, row, index) & ~knownIn(settings, block));
        }

        int unrestorableIn(Settings settings, int block) {
            long all = (1L << settings.cells()) - 1;
            return Long.bitCount(all & ~completed(settings, knownIn(settings, block), ALL_PACKETS));
        }

        /** How many frames are known in succession, from a frame on. */
        int knownFrom(Settings settings, int first) {
            int frame = first;
            for (; frame <= LAST_FRAME; frame++) {
                if (stateOf(settings, frame) == 0) {
                    break;
                }
            }
            return frame - first;
        }

        /** The known frames of a block, with those above the last frame, which count as arrived. */
        private long knownIn(Settings settings, int block) {
            int inside = LAST_FRAME + 1 - block * settings.cells();
            long beyond = inside < 64 ? -1L << inside : 0L;
            return known[block] | beyond;
        }

        /** The known frames once the packets have restored all that they can. */
        private static long completed(Settings settings, long known, int packets) {
            long result = known;
            // Every round but the last restores a frame.
            for (int round = 0; round <= MOST_CELLS; round++) {
                long before = result;
                for (int index = 0; index < settings.rows; index++) {
                    result = withLine(settings, result, packets, true, index);
                }
                for (int index = 0; index < settings.columns; index++) {
                    result = withLine(settings, result, packets, false, index);
                }
                if (result == before) {
                    break;
                }
            }
            return result;
        }

        /** The known frames with the one that a row or column restores, if it does. */
        private static long withLine(Settings settings, long known, int packets, boolean row, int index) {
            if ((packets & packetBit(row, index)) == 0) {
                return known;
            }
            long unknown = lineBits(settings, row, index) & ~known;
            return Long.bitCount(unknown) == 1 ? known | unknown : known;
        }

        private static int packetBit(boolean row, int index) {
            return 1 << (row ? index : Settings.MOST_SIDE + index);
        }

        /** The bits of the frames of a row or column. */
        private static long lineBits(Settings settings, boolean row, int index) {
            if (row) {
                return (1L << settings.columns) - 1 << index * settings.columns;
            }
            long bits = 0;
            for (int i = 0; i < settings.rows; i++) {
                bits |= 1L << i * settings.columns + index;
            }
            return bits;
        }
    }

    /** The window of the latest transits. */
    private static final class Transits {
        private static final int MOST = 16;

        private final int[] latest = new int[MOST];
        private final int[] ascending = new int[MOST];
        int count;
        private int place;

        void copyFrom(Transits other) {
            System.arraycopy(other.latest, 0, latest, 0, MOST);
            System.arraycopy(other.ascending, 0, ascending, 0, MOST);
            count = other.count;
            place = other.place;
        }

        void add(int value) {
            latest[place] = value;
            place = (place + 1) % MOST;
            count = Math.min(MOST, count + 1);
            for (int i = 0; i < count; i++) {
                insert(latest[i], i);
            }
        }

        int ascendingAt(int index) {
            return ascending[index];
        }

        /** By how much the quantile of the transits is above the smallest one. */
        int spread(int quantile) {
            if (count == 0) {
                return 0;
            }
            return ascending[(quantile * count + 99) / 100 - 1] - ascending[0];
        }

        /** Inserts a value into the first ones of the ascending row. */
        private void insert(int value, int size) {
            int hole = size;
            for (; hole > 0 && ascending[hole - 1] > value; hole--) {
                ascending[hole] = ascending[hole - 1];
            }
            ascending[hole] = value;
        }
    }

    /** The samples that are output: those of the frame that was taken last, and those of the past. */
    private static final class Player {
        private static final int KEPT_OUTPUTS = 256;
        private static final int KEPT_KINDS = 32;
        private static final int SHORTEST_LAG = 2;
        private static final int LONGEST_LAG = 16;
        private static final int MOST_SAMPLES = Settings.MOST_SAMPLES + Settings.MOST_SAMPLES / 2;

        private final int[] frame = new int[MOST_SAMPLES];
        private int length;
        private int position;
        private final int[] history = new int[KEPT_OUTPUTS];
        int outputs;
        private final int[] kinds = new int[KEPT_KINDS];
        int next;
        private final int[] source = new int[2 * LONGEST_LAG];

        void copyFrom(Player other) {
            System.arraycopy(other.frame, 0, frame, 0, MOST_SAMPLES);
            length = other.length;
            position = other.position;
            System.arraycopy(other.history, 0, history, 0, KEPT_OUTPUTS);
            outputs = other.outputs;
            System.arraycopy(other.kinds, 0, kinds, 0, KEPT_KINDS);
            next = other.next;
        }

        int remaining() {
            return length - position;
        }

        int outputAt(int back) {
            return history[(outputs - back) % KEPT_OUTPUTS];
        }

        int kindAt(int back) {
            return kinds[(next - back) % KEPT_KINDS];
        }

        void putOut() {
            if (position < length) {
                history[outputs % KEPT_OUTPUTS] = frame[position];
                outputs++;
                position++;
            }
        }

        /** Takes the next frame, whose samples are to be put next. */
        void begin(int kind) {
            kinds[next % KEPT_KINDS] = kind;
            next++;
            length = 0;
            position = 0;
        }

        /** Puts the samples of a frame into the source, for one of the three next methods. */
        void loadWave(Settings settings, int number) {
            for (int i = 0; i < settings.samples; i++) {
                source[i] = settings.waveAt(number, i);
            }
        }

        void putAsItIs(int samples) {
            putSource(0, samples);
        }

        void putCompressed(int samples) {
            int lag = bestLag(samples / 2, true);
            for (int i = 0; i < lag; i++) {
                put((source[i] * (lag - i) + source[i + lag] * i) / lag);
            }
            putSource(2 * lag, samples);
        }

        void putStretched(int samples) {
            int lag = bestLag(samples / 2, true);
            putSource(0, lag);
            for (int i = 0; i < lag; i++) {
                put((source[i + lag] * (lag - i) + source[i] * i) / lag);
            }
            putSource(lag, samples);
        }

        /** Puts what repeats the latest outputs, which stand in the source from the last one back. */
        void putConcealed(int samples, int gap) {
            int past = Math.min(outputs, 2 * LONGEST_LAG);
            for (int i = 0; i < past; i++) {
                source[i] = outputAt(i + 1);
            }
            int lag = past < 2 * SHORTEST_LAG ? 0 : bestLag(past / 2, false);
            for (int i = 0; i < samples; i++) {
                put(lag == 0 ? 0 : faded(source[lag - 1 - i % lag], gap));
            }
        }

        private void putSource(int from, int to) {
            for (int i = from; i < to; i++) {
                put(source[i]);
            }
        }

        private void put(int sample) {
            if (length < MOST_SAMPLES) {
                frame[length] = sample;
                length++;
            }
        }

        /** The lag, up to a longest one, after which the source repeats itself best; of several the smallest. */
        private int bestLag(int longest, boolean exact) {
            int best = SHORTEST_LAG;
            int bestSum = differences(best);
            for (int lag = SHORTEST_LAG + 1; lag <= longest; lag++) {
                int sum = differences(lag);
                // The document wants exact fractions for stretching and compressing alone: elsewhere its
                // quotients are truncated.
                if (exact ? sum * best < bestSum * lag : sum / lag < bestSum / best) {
                    best = lag;
                    bestSum = sum;
                }
            }
            return best;
        }

        private int differences(int lag) {
            int sum = 0;
            for (int i = 0; i < lag; i++) {
                sum += Math.abs(source[i] - source[i + lag]);
            }
            return sum;
        }

        private static int faded(int sample, int gap) {
            int result = sample;
            for (int i = 0; i < gap && result != 0; i++) {
                result = result * 3 / 4;
            }
            return result;
        }
    }

    /** What is counted. */
    private static final class Counters {
        int played;
        int restored;
        int concealed;
        int stretched;
        int compressed;
        int late;
        int duplicates;
        int gap;
        int longestGap;

        void copyFrom(Counters other) {
            played = other.played;
            restored = other.restored;
            concealed = other.concealed;
            stretched = other.stretched;
            compressed = other.compressed;
            late = other.late;
            duplicates = other.duplicates;
            gap = other.gap;
            longestGap = other.longestGap;
        }

        int takenAs(int kind) {
            if (kind == CONCEALED) {
                return concealed;
            }
            return kind == PLAYED ? played : restored;
        }

        void countKnown(int kind) {
            if (kind == PLAYED) {
                played++;
            } else {
                restored++;
            }
            gap = 0;
        }

        void countConcealed() {
            concealed++;
            gap++;
            longestGap = Math.max(longestGap, gap);
        }
    }

    /** Arrivals with their times, in the order in which they were added. */
    private static final class Arrivals {
        private static final int MOST = 24;
        private static final int FRAME = 0;
        private static final int ROW = 1;
        private static final int COLUMN = 2;

        private final int[] kinds = new int[MOST];
        private final int[] numbers = new int[MOST];
        private final int[] indexes = new int[MOST];
        private final int[] times = new int[MOST];
        int size;

        void copyFrom(Arrivals other) {
            size = 0;
            addAll(other);
        }

        void addAll(Arrivals other) {
            for (int i = 0; i < other.size; i++) {
                add(other.kinds[i], other.numbers[i], other.indexes[i], other.times[i]);
            }
        }

        void add(int kind, int number, int index, int time) {
            if (size < MOST) {
                kinds[size] = kind;
                numbers[size] = number;
                indexes[size] = index;
                times[size] = time;
                size++;
            }
        }

        void removeAllAt(int time) {
            int count = size;
            size = 0;
            for (int i = 0; i < count; i++) {
                if (times[i] != time) {
                    add(kinds[i], numbers[i], indexes[i], times[i]);
                }
            }
        }
    }

    /** The text buffer, and the reading of the arrivals that its text describes. */
    private static final class ArrivalText {
        private static final int MOST_CHARACTERS = 120;
        private static final int MOST_DIGITS = 4;
        // What the reading expects: an entry, or one of the numbers of an entry.
        private static final int ENTRY = 0;
        private static final int FRAME = 1;
        private static final int BLOCK = 2;
        private static final int LINE = 3;
        private static final int TIME = 4;

        private final int[] characters = new int[MOST_CHARACTERS];
        int length;
        private int expected;
        private int digits;
        private int value;
        private int kind;
        private int number;
        private int index;

        void write(int character) {
            if (length < MOST_CHARACTERS) {
                characters[length] = character;
                length++;
            }
        }

        /** Reads the arrivals of the text up to its fault, and answers the fault position, or NONE. */
        int readInto(Arrivals arrivals) {
            arrivals.size = 0;
            expected = ENTRY;
            for (int i = 0; i < length; i++) {
                if (!follows(characters[i], arrivals)) {
                    return i;
                }
            }
            return expected == ENTRY ? NONE : length;
        }

        /** Reads a character, if it can follow. */
        private boolean follows(int character, Arrivals arrivals) {
            if (expected == ENTRY) {
                return beginsEntry(character);
            }
            if (character >= '0' && character <= '9') {
                value = 10 * value + character - '0';
                digits++;
                return digits <= MOST_DIGITS;
            }
            if (digits == 0 || character != endOfNumber()) {
                return false;
            }
            endNumber(arrivals);
            return true;
        }

        private boolean beginsEntry(int character) {
            switch (character) {
                case 'd':
                    kind = Arrivals.FRAME;
                    expect(FRAME);
                    return true;
                case 'r':
                    kind = Arrivals.ROW;
                    expect(BLOCK);
                    return true;
                case 'c':
                    kind = Arrivals.COLUMN;
                    expect(BLOCK);
                    return true;
                default:
                    return false;
            }
        }

        private int endOfNumber() {
            switch (expected) {
                case BLOCK:
                    return '.';
                case TIME:
                    return ';';
                default:
                    return '@';
            }
        }

        private void endNumber(Arrivals arrivals) {
            switch (expected) {
                case BLOCK:
                    number = value;
                    expect(LINE);
                    break;
                case LINE:
                    index = value;
                    expect(TIME);
                    break;
                case TIME:
                    arrivals.add(kind, number, index, value);
                    expect(ENTRY);
                    break;
                default:
                    number = value;
                    expect(TIME);
                    break;
            }
        }

        private void expect(int part) {
            expected = part;
            digits = 0;
            value = 0;
        }
    }

    /** All that keep keeps: everything except the text and the slots. */
    private static final class Receiver {
        final Settings settings = new Settings();
        final Frames frames = new Frames();
        final Transits transits = new Transits();
        final Player player = new Player();
        final Counters counters = new Counters();
        final Arrivals schedule = new Arrivals();
        int time;
        boolean started;
        int start;

        void copyFrom(Receiver other) {
            settings.copyFrom(other.settings);
            frames.copyFrom(other.frames);
            transits.copyFrom(other.transits);
            player.copyFrom(other.player);
            counters.copyFrom(other.counters);
            schedule.copyFrom(other.schedule);
            time = other.time;
            started = other.started;
            start = other.start;
        }

        /** Whether something has arrived, or is scheduled. */
        boolean hasBegun() {
            return started || schedule.size > 0;
        }

        int targetNow() {
            return transits.spread(settings.quantile) + settings.margin;
        }

        int levelFrom(int frame) {
            return settings.samples * frames.knownFrom(settings, frame);
        }

        /** A frame arrives; answers how many frames become known by it. */
        int acceptFrame(int frame) {
            if (frames.stateOf(settings, frame) != 0) {
                counters.duplicates++;
                return 0;
            }
            startOnce();
            transits.add(time - frame * settings.samples);
            if (frame < player.next) {
                counters.late++;
            }
            frames.addFrame(settings, frame);
            return 1 + frames.restoreIn(settings, frame / settings.cells());
        }

        /** A parity packet arrives; answers how many frames become known by it. */
        int acceptPacket(boolean row, int block, int index) {
            if (frames.hasPacket(row, block, index)) {
                counters.duplicates++;
                return 0;
            }
            startOnce();
            frames.addPacket(row, block, index);
            return frames.restoreIn(settings, block);
        }

        void passTick() {
            acceptDue();
            if (started && time >= start) {
                if (player.remaining() == 0 && player.next <= LAST_FRAME) {
                    takeFrame(player.next);
                }
                player.putOut();
            }
            time++;
        }

        private void startOnce() {
            if (!started) {
                started = true;
                start = time + settings.initialDelay;
            }
        }

        private void acceptDue() {
            for (int i = 0; i < schedule.size; i++) {
                if (schedule.times[i] != time) {
                    continue;
                }
                if (schedule.kinds[i] == Arrivals.FRAME) {
                    acceptFrame(schedule.numbers[i]);
                } else {
                    acceptPacket(schedule.kinds[i] == Arrivals.ROW, schedule.numbers[i], schedule.indexes[i]);
                }
            }
            schedule.removeAllAt(time);
        }

        private void takeFrame(int frame) {
            int state = frames.stateOf(settings, frame);
            if (state == 0) {
                counters.countConcealed();
                player.begin(CONCEALED);
                player.putConcealed(settings.samples, counters.gap);
                return;
            }
            int kind = state == 2 ? PLAYED : RESTORED;
            counters.countKnown(kind);
            player.begin(kind);
            putKnown(frame);
        }

        /** Puts a known frame, stretched or compressed where that brings the level to the target. */
        private void putKnown(int frame) {
            int level = levelFrom(frame + 1);
            int target = targetNow();
            player.loadWave(settings, frame);
            if (settings.adapting && level > target + settings.samples) {
                counters.compressed++;
                player.putCompressed(settings.samples);
            } else if (settings.adapting && level + settings.samples < target) {
                counters.stretched++;
                player.putStretched(settings.samples);
            } else {
                player.putAsItIs(settings.samples);
            }
        }
    }
}
