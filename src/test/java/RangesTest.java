/**
 * "BAD_VALUE: an argument is out of its range, or names something that does not exist": for every argument its least
 * and greatest value, those just outside, and those far outside, which products of numbers would bring back in.
 */
public final class RangesTest {
    private interface Call {
        long on(PlayoutBuffer x, int value);
    }

    private interface Maker {
        PlayoutBuffer make();
    }

    private static final Maker NEW = PlayoutBuffer::new;

    public static void main(String[] args) {
        setFrame();
        setWave();
        setBlock();
        setInitialDelay();
        setQuantile();
        setMargin();
        arrive();
        advance();
        output();
        kind();
        state();
        sample();
        transit();
        taken();
        gapsIn();
        ticksToFrame();
        append();
        keepAndRestore();
        packetsOfAllShapes();
        twoWrongArguments();
        Due.end();
    }

    /** The values from low to high are taken, and all others refused. Each call goes to an object of its own. */
    private static void range(String what, int low, int high, Maker maker, Call call) {
        int[] near = {low - 1, low, low + 1, high - 1, high, high + 1, -1, 0, 1, Integer.MIN_VALUE, Integer.MAX_VALUE};
        for (int value : near) {
            one(what, low, high, value, maker, call);
        }
        for (int bit = 8; bit < 32; bit++) {
            one(what, low, high, 1 << bit, maker, call);
            one(what, low, high, (1 << bit) + low, maker, call);
            one(what, low, high, high - (1 << bit), maker, call);
        }
    }

    private static void one(String what, int low, int high, int value, Maker maker, Call call) {
        boolean refused = call.on(maker.make(), value) == PlayoutBuffer.BAD_VALUE;
        Due.due(what + ": " + value + " is refused", refused ? 1 : 0, value < low || value > high ? 1 : 0);
    }

    /** "`samples`: 4 to 16", and "N from 4 to 16". */
    private static void setFrame() {
        range("2: setFrame", 4, 16, NEW, (x, n) -> x.setFrame(n));
        for (int n = 4; n <= 16; n++) {
            PlayoutBuffer x = new PlayoutBuffer();
            x.setFrame(n);
            Due.due("2: setFrame, after " + n, x.setFrame(4), n);
        }
    }

    /** "`period`: 2 to 32", "`slope`: 1 to 200". */
    private static void setWave() {
        range("3: period", 2, 32, NEW, (x, p) -> x.setWave(p, 1));
        range("3: period", 2, 32, NEW, (x, p) -> x.setWave(p, 200));
        range("3: slope", 1, 200, NEW, (x, s) -> x.setWave(2, s));
        range("3: slope", 1, 200, NEW, (x, s) -> x.setWave(32, s));
        PlayoutBuffer x = new PlayoutBuffer();
        x.setWave(2, 1);
        Due.due("3: setWave, after the least", x.setWave(32, 200), 2001);
        Due.due("3: setWave, after the greatest", x.setWave(2, 200), 32200);
        Due.due("3: setWave, after both", x.setWave(32, 1), 2200);
    }

    /** "`columns`: 2 to 6", "`rows`: 2 to 6". */
    private static void setBlock() {
        range("4: columns", 2, 6, NEW, (x, c) -> x.setBlock(c, 2));
        range("4: columns", 2, 6, NEW, (x, c) -> x.setBlock(c, 6));
        range("4: rows", 2, 6, NEW, (x, r) -> x.setBlock(2, r));
        range("4: rows", 2, 6, NEW, (x, r) -> x.setBlock(6, r));
        PlayoutBuffer x = new PlayoutBuffer();
        int previous = 44;
        for (int c = 2; c <= 6; c++) {
            for (int r = 2; r <= 6; r++) {
                Due.due("4: setBlock(" + c + ", " + r + ")", x.setBlock(c, r), previous);
                previous = 10 * c + r;
            }
        }
    }

    /** "`ticks`: the new initial delay, 0 to 200". */
    private static void setInitialDelay() {
        range("5: setInitialDelay", 0, 200, NEW, (x, t) -> x.setInitialDelay(t));
    }

    /** "`quantile`: the new quantile, 1 to 100". */
    private static void setQuantile() {
        range("6: setQuantile", 1, 100, NEW, (x, q) -> x.setQuantile(q));
        for (String stage : Stages.NAMES) {
            range("6: setQuantile, " + stage, 1, 100, () -> Stages.at(stage), (x, q) -> x.setQuantile(q));
        }
    }

    /** "`margin`: the new margin, 0 to 100". */
    private static void setMargin() {
        range("7: setMargin", 0, 100, NEW, (x, m) -> x.setMargin(m));
        for (String stage : Stages.NAMES) {
            range("7: setMargin, " + stage, 0, 100, () -> Stages.at(stage), (x, m) -> x.setMargin(m));
        }
    }

    /** "The stream consists of the frames 0 to 999." */
    private static void arrive() {
        range("9: arrive", 0, 999, NEW, (x, k) -> x.arrive(k));
        // frames above 999 count as arrived, and yet they are no frames that could arrive again
        Maker longBlocks = () -> {
            PlayoutBuffer x = new PlayoutBuffer();
            x.setBlock(6, 6);
            return x;
        };
        range("9: arrive, 6 * 6", 0, 999, longBlocks, (x, k) -> x.arrive(k));
    }

    /** "`ticks`: 1 to 500". */
    private static void advance() {
        range("11: advance", 1, 500, NEW, (x, t) -> x.advance(t));
        for (String stage : Stages.NAMES) {
            range("11: advance, " + stage, 1, 500, () -> Stages.at(stage), (x, t) -> x.advance(t));
        }
    }

    /** "`back`: which sample, 1 for the one that was output last, up to 256". */
    private static void output() {
        for (String stage : Stages.NAMES) {
            range("14: output, " + stage, 1, 256, () -> Stages.at(stage), (x, b) -> x.output(b));
        }
    }

    /** "`back`: which frame, 1 for the one that was taken last, up to 32". */
    private static void kind() {
        for (String stage : Stages.NAMES) {
            range("18: kind, " + stage, 1, 32, () -> Stages.at(stage), (x, b) -> x.kind(b));
        }
    }

    /** "`frame`: 0 to 999". */
    private static void state() {
        for (String stage : Stages.NAMES) {
            range("19: state, " + stage, 0, 999, () -> Stages.at(stage), (x, k) -> x.state(k));
        }
    }

    /** "Returns the sample; BAD_VALUE, also if the frame has no such sample." */
    private static void sample() {
        for (int n = 4; n <= 16; n++) {
            int samples = n;
            Maker maker = () -> {
                PlayoutBuffer x = new PlayoutBuffer();
                x.setFrame(samples);
                return x;
            };
            range("20: sample(0, index), " + n, 0, n - 1, maker, (x, j) -> x.sample(0, j));
            range("20: sample(999, index), " + n, 0, n - 1, maker, (x, j) -> x.sample(999, j));
            range("20: sample(frame, 0), " + n, 0, 999, maker, (x, k) -> x.sample(k, 0));
            range("23: paritySample(place), " + n, 0, n - 1, maker, (x, j) -> x.paritySample(true, 62, 3, j));
        }
    }

    /** "Returns the transit, ..; BAD_VALUE if there is no such index." */
    private static void transit() {
        for (int m = 0; m <= 20; m++) {
            int frames = m;
            Maker maker = () -> {
                PlayoutBuffer x = new PlayoutBuffer();
                for (int k = 0; k < frames; k++) {
                    x.arrive(3 * k);
                }
                return x;
            };
            range("25: transit, of " + m, 0, Math.min(16, m) - 1, maker, (x, i) -> x.transit(i));
        }
    }

    /** "`kind`: PLAYED, RESTORED or CONCEALED". */
    private static void taken() {
        for (String stage : Stages.NAMES) {
            range("28: taken, " + stage, 1, 3, () -> Stages.at(stage), (x, k) -> x.taken(k));
        }
    }

    /** "`ticks`: 1 to 1000". */
    private static void gapsIn() {
        for (String stage : Stages.NAMES) {
            range("36: gapsIn, " + stage, 1, 1000, () -> Stages.at(stage), (x, t) -> x.gapsIn(t));
        }
    }

    /** "`frame`: 0 to 999", of ticksToFrame. */
    private static void ticksToFrame() {
        for (String stage : Stages.NAMES) {
            range("37: ticksToFrame, " + stage, 0, 999, () -> Stages.at(stage), (x, k) -> x.ticksToFrame(k));
        }
    }

    /** "`character`: its code, 32 to 126". */
    private static void append() {
        range("38: append", 32, 126, NEW, (x, c) -> x.append(c));
        // the text holds characters that no entry has: they are no wrong values
        for (int code = 32; code <= 126; code++) {
            PlayoutBuffer x = new PlayoutBuffer();
            Due.due("38: append(" + code + ")", x.append(code), 1);
            boolean begins = code == 'd' || code == 'r' || code == 'c';
            Due.due("40: faultPosition() of " + (char) code, x.faultPosition(), begins ? 1 : 0);
        }
    }

    /** "`slot`: 0 or 1". */
    private static void keepAndRestore() {
        for (String stage : Stages.NAMES) {
            range("43: keep, " + stage, 0, 1, () -> Stages.at(stage), (x, s) -> x.keep(s));
            range("44: restore, " + stage, 0, 1, () -> Stages.at(stage), (x, s) -> x.restore(s));
        }
    }

    /** "`block`: the number of a block that has a frame up to 999", "`index`: the number of the row or column". */
    private static void packetsOfAllShapes() {
        for (int c = 2; c <= 6; c++) {
            for (int r = 2; r <= 6; r++) {
                int columns = c;
                int rows = r;
                Maker maker = () -> {
                    PlayoutBuffer x = new PlayoutBuffer();
                    x.setBlock(columns, rows);
                    return x;
                };
                blocks(maker, c + " * " + r, 999 / (c * r));
                lines(maker, c + " * " + r, c, r, 0);
                lines(maker, c + " * " + r, c, r, 999 / (c * r));
            }
        }
    }

    private static void blocks(Maker maker, String shape, int last) {
        range("10: arriveParity(true, block, 0), " + shape, 0, last, maker, (x, b) -> x.arriveParity(true, b, 0));
        range("10: arriveParity(false, block, 0), " + shape, 0, last, maker, (x, b) -> x.arriveParity(false, b, 0));
        range("21: missing(true, block, 0), " + shape, 0, last, maker, (x, b) -> x.missing(true, b, 0));
        range("21: missing(false, block, 0), " + shape, 0, last, maker, (x, b) -> x.missing(false, b, 0));
        range("22: unrestorable, " + shape, 0, last, maker, (x, b) -> x.unrestorable(b));
        range("23: paritySample(true, block, 0, 0), " + shape, 0, last, maker, (x, b) -> x.paritySample(true, b, 0, 0));
        range("23: paritySample(false, block, 0, 0), " + shape, 0, last, maker,
                (x, b) -> x.paritySample(false, b, 0, 0));
    }

    private static void lines(Maker maker, String shape, int c, int r, int block) {
        String of = " of block " + block + ", " + shape;
        range("10: arriveParity, row" + of, 0, r - 1, maker, (x, i) -> x.arriveParity(true, block, i));
        range("10: arriveParity, column" + of, 0, c - 1, maker, (x, i) -> x.arriveParity(false, block, i));
        range("21: missing, row" + of, 0, r - 1, maker, (x, i) -> x.missing(true, block, i));
        range("21: missing, column" + of, 0, c - 1, maker, (x, i) -> x.missing(false, block, i));
        range("23: paritySample, row" + of, 0, r - 1, maker, (x, i) -> x.paritySample(true, block, i, 7));
        range("23: paritySample, column" + of, 0, c - 1, maker, (x, i) -> x.paritySample(false, block, i, 7));
    }

    /** One good argument does not make up for a bad one, and two bad ones for each other. */
    private static void twoWrongArguments() {
        PlayoutBuffer x = new PlayoutBuffer();
        int bad = PlayoutBuffer.BAD_VALUE;
        Due.due("3: setWave(33, 0)", x.setWave(33, 0), bad);
        Due.due("3: setWave(1, 201)", x.setWave(1, 201), bad);
        Due.due("4: setBlock(1, 7)", x.setBlock(1, 7), bad);
        Due.due("4: setBlock(8, 2), of 16 frames", x.setBlock(8, 2), bad);
        Due.due("10: arriveParity(true, 63, -1)", x.arriveParity(true, 63, -1), bad);
        Due.due("10: arriveParity(true, -1, 4)", x.arriveParity(true, -1, 4), bad);
        Due.due("10: arriveParity(false, 1, -4)", x.arriveParity(false, 1, -4), bad);
        Due.due("20: sample(1000, 8)", x.sample(1000, 8), bad);
        Due.due("20: sample(1, -8)", x.sample(1, -8), bad);
        Due.due("20: sample(-1, 8)", x.sample(-1, 8), bad);
        Due.due("23: paritySample(true, 63, 4, 8)", x.paritySample(true, 63, 4, 8), bad);
        Due.due("23: paritySample(true, -1, 4, -8)", x.paritySample(true, -1, 4, -8), bad);
        Due.due("23: paritySample(false, 0, -1, 8)", x.paritySample(false, 0, -1, 8), bad);
        Answers.same("after wrong arguments", x, new PlayoutBuffer());
    }
}
