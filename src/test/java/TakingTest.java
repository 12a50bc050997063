import java.util.Arrays;

/** Taking a frame: its kind, whether it is compressed or stretched, and the samples that are output then. */
public final class TakingTest {
    private static final int[] PERIODS = {2, 3, 4, 5, 6, 7, 8, 11, 16, 17, 31, 32};
    private static final int[] SLOPES = {1, 2, 25, 67, 99, 100, 131, 150, 199, 200};

    public static void main(String[] args) {
        kindOfAKnownFrame();
        compressedAboveTheTargetPlusN();
        stretchedBelowTheTarget();
        levelsOfNoneAndOne();
        levelEndsAtTheFirstUnknownFrame();
        levelEndsAtTheLastFrame();
        levelHasRestoredFrames();
        targetIsThatOfTheTick();
        adaptingOff();
        takenFramesStayAsTheyAre();
        waves();
        lagsOfAllSizes();
        compressedAndStretchedSamples();
        quotientsAreTruncatedTowardsZero();
        concealedWithNothingBefore();
        concealedAfterFourSamples();
        concealedFrames();
        concealedUntilSilence();
        successionEndsWithAKnownFrame();
        Due.end();
    }

    /** Frames that are known to the receiver at once, and whose target is the margin: the quantile is 1. */
    private static PlayoutBuffer known(int n, int margin, int first, int last) {
        PlayoutBuffer x = new PlayoutBuffer();
        x.setFrame(n);
        x.setInitialDelay(0);
        x.setQuantile(1);
        x.setMargin(margin);
        Due.arrive(x, first, last);
        return x;
    }

    private static void taken(String what, PlayoutBuffer x, int compressed, int stretched) {
        x.advance(1);
        Due.due(what + ": compressed()", x.compressed(), compressed);
        Due.due(what + ": stretched()", x.stretched(), stretched);
    }

    /** "PLAYED if it has arrived, or RESTORED if it is known otherwise", "CONCEALED if it is not known" */
    private static void kindOfAKnownFrame() {
        PlayoutBuffer x = known(4, 0, 1, 3);
        x.setAdapting(false);
        x.arriveParity(true, 0, 0);
        x.advance(17);
        int[] kinds = {PlayoutBuffer.CONCEALED, PlayoutBuffer.PLAYED, PlayoutBuffer.PLAYED, PlayoutBuffer.PLAYED,
            PlayoutBuffer.RESTORED};
        for (int back = 1; back <= 5; back++) {
            Due.due("kind(" + back + ")", x.kind(back), kinds[back - 1]);
        }
        for (int kind = 1; kind <= 3; kind++) {
            Due.due("taken(" + kind + ")", x.taken(kind), kind == 1 ? 3 : 1);
        }
    }

    /** "compressed if the level is greater than the target plus N": at each level, just above and just at it. */
    private static void compressedAboveTheTargetPlusN() {
        for (int n = 4; n <= 16; n++) {
            for (int frames = 2; frames <= 6; frames++) {
                int level = frames * n;
                String what = "level " + level + " of frames of " + n;
                taken(what + ", target plus N is the level", known(n, level - n, 0, frames), 0, 0);
                taken(what + ", target plus N is one less", known(n, level - n - 1, 0, frames), 1, 0);
            }
        }
    }

    /** "stretched if the level plus N is less than the target": at each level, just at and just below it. */
    private static void stretchedBelowTheTarget() {
        for (int n = 4; n <= 16; n++) {
            for (int frames = 0; frames <= 4; frames++) {
                int level = frames * n;
                String what = "level " + level + " of frames of " + n;
                taken(what + ", the level plus N is the target", known(n, level + n, 0, frames), 0, 0);
                taken(what + ", the level plus N is one less", known(n, level + n + 1, 0, frames), 0, 1);
            }
        }
    }

    private static void levelsOfNoneAndOne() {
        for (int n = 4; n <= 16; n++) {
            taken("level 0, target 0", known(n, 0, 0, 0), 0, 0);
            taken("level N, target 0", known(n, 0, 0, 1), 0, 0);
            taken("level 2 * N, target 0", known(n, 0, 0, 2), 1, 0);
            taken("level 0, target 100", known(n, 100, 0, 0), 0, 1);
        }
    }

    /** "up to the first one that is not known" */
    private static void levelEndsAtTheFirstUnknownFrame() {
        PlayoutBuffer x = known(8, 0, 0, 1);
        Due.arrive(x, 3, 20);
        taken("frame 2 is not known", x, 0, 0);
        PlayoutBuffer y = known(8, 0, 0, 1);
        Due.arrive(y, 3, 20);
        y.arrive(2);
        taken("frame 2 is known", y, 1, 0);
        // the frame that is taken is not counted itself
        taken("frames 0 and 1", known(8, 17, 0, 1), 0, 1);
        taken("frames 0 and 1", known(8, 16, 0, 1), 0, 0);
    }

    /** "or up to frame 999": the frames above it in the last block, which count as arrived, are not counted. */
    private static void levelEndsAtTheLastFrame() {
        for (int last = 997; last <= 999; last++) {
            for (int margin : new int[] {0, 4, 5, 8, 9, 12, 13}) {
                PlayoutBuffer x = new PlayoutBuffer();
                x.setBlock(6, 6);
                x.setFrame(4);
                x.setInitialDelay(0);
                x.setQuantile(1);
                x.setMargin(margin);
                x.setAdapting(false);
                Due.arrive(x, 990, 999);
                Due.pass(x, 4 * last);
                x.setAdapting(true);
                int level = 4 * (999 - last);
                Due.due("level(), " + last + " is the next", x.level(), level + 4);
                taken("frame " + last + ", margin " + margin, x, level > margin + 4 ? 1 : 0, level + 4 < margin ? 1 : 0);
            }
        }
    }

    private static void levelHasRestoredFrames() {
        PlayoutBuffer x = known(4, 0, 0, 2);
        x.arriveParity(true, 0, 0);
        x.setMargin(7);
        taken("frame 3 is restored", x, 1, 0);
        PlayoutBuffer y = known(4, 7, 0, 2);
        taken("frame 3 is not known", y, 0, 0);
        // a restored frame is compressed and stretched itself
        PlayoutBuffer z = known(4, 0, 1, 3);
        z.arriveParity(true, 0, 0);
        taken("frame 0 is restored", z, 1, 0);
        Due.due("kind(1)", z.kind(1), PlayoutBuffer.RESTORED);
    }

    /** What arrives before the tick, or in it, is reckoned with: the level and the target are those of the tick. */
    private static void targetIsThatOfTheTick() {
        PlayoutBuffer x = known(4, 0, 0, 0);
        x.setQuantile(100);
        x.setMargin(4);
        x.advance(4);
        x.keep(0);
        x.arrive(1);
        x.advance(1);
        Due.due("stretched(), one transit of 0 and one of 0", x.stretched(), 0);
        x.restore(0);
        Due.schedule(x, "d1@6;");
        x.arriveParity(true, 0, 0);
        x.advance(1);
        Due.due("kind(1), 1 comes in the tick of 6", x.kind(1), PlayoutBuffer.CONCEALED);
        x.restore(0);
        // 1 arrives now, and 50 makes the target greater by 4 * 50 - 4
        x.arrive(1);
        x.arrive(50);
        x.advance(1);
        Due.due("stretched(), by an arrival at the time of the tick", x.stretched(), 1);
        x.restore(0);
        x.advance(3);
        x.arrive(2);
        Due.schedule(x, "d50@8;");
        x.advance(2);
        Due.due("kind(1)", x.kind(1), PlayoutBuffer.PLAYED);
        Due.due("stretched(), by an arrival in the tick", x.stretched(), 1);
        // the margin and the quantile are those of the tick, too
        PlayoutBuffer y = known(4, 4, 0, 3);
        y.setMargin(100);
        y.advance(1);
        Due.due("stretched(), the margin was set", y.stretched(), 1);
        y.setMargin(0);
        y.advance(6);
        Due.due("compressed(), the margin was set", y.compressed(), 1);
    }

    /** "If adapting is off (at first it is on), the frame is output as it is." */
    private static void adaptingOff() {
        for (int n = 4; n <= 16; n++) {
            PlayoutBuffer x = known(n, 0, 0, 6);
            x.setAdapting(false);
            taken("adapting is off, frames of " + n, x, 0, 0);
            Due.due("left(), frames of " + n, x.left(), n - 1);
            PlayoutBuffer y = known(n, 100, 0, 0);
            y.setAdapting(false);
            taken("adapting is off, frames of " + n, y, 0, 0);
            Due.due("left(), frames of " + n, y.left(), n - 1);
            y.advance(n - 1);
            for (int j = 0; j < n; j++) {
                Due.due("output(" + (n - j) + ")", y.output(n - j), y.sample(0, j));
            }
        }
        taken("adapting is on at first", known(8, 0, 0, 6), 1, 0);
    }

    /** A frame that has been taken does not change any more, whatever is set or arrives then. */
    private static void takenFramesStayAsTheyAre() {
        PlayoutBuffer x = known(8, 100, 0, 0);
        x.advance(1);
        int left = x.left();
        x.setAdapting(false);
        x.setMargin(0);
        Due.arrive(x, 1, 9);
        Due.due("left(), stretched", x.left(), left);
        Due.due("stretched()", x.stretched(), 1);
        x.advance(left);
        int[] frame = Formulas.stretched(Formulas.samples(8, 16, 25, 0));
        Due.outputs("stretched", x, frame);
    }

    /** "period, from 2 to 32, is at first 16, and the slope, from 1 to 200, is at first 25" */
    private static void waves() {
        for (int period : new int[] {2, 3, 31, 32}) {
            for (int slope : new int[] {1, 2, 100, 101, 199, 200}) {
                PlayoutBuffer x = new PlayoutBuffer();
                x.setWave(period, slope);
                x.setFrame(16);
                for (int i = 0; i < 70; i++) {
                    Due.due("wave(" + i + ") of " + period + ", " + slope, x.sample(i / 16, i % 16),
                            Formulas.wave(period, slope, i));
                }
                Due.due("wave(15999) of " + period + ", " + slope, x.sample(999, 15),
                        Formulas.wave(period, slope, 15999));
            }
        }
        // multiples of 201 are -100, and one less is 100
        PlayoutBuffer x = new PlayoutBuffer();
        x.setWave(4, 67);
        Due.due("67 * 3 is 201", x.sample(0, 3), -100);
        Due.due("67 * 2 is 134", x.sample(0, 2), 34);
        PlayoutBuffer y = new PlayoutBuffer();
        y.setWave(3, 100);
        Due.due("100 * 2 is 200", y.sample(0, 2), 100);
        Due.due("the period goes round", y.sample(0, 3), -100);
        PlayoutBuffer z = new PlayoutBuffer();
        Due.due("the wave at first", z.sample(1, 7), 25 * 15 % 201 - 100);
        Due.due("the wave at first goes round", z.sample(2, 0), -100);
    }

    /** "Its lag is the p from 2 to N / 2 ..": a wave of each period up to N / 2 is met by the lag, and no longer one. */
    private static void lagsOfAllSizes() {
        for (int n = 4; n <= 16; n++) {
            for (int period = 2; period <= 10; period++) {
                // the slope 99 leaves no smaller lag without differences; of several the smallest one
                PlayoutBuffer x = known(n, 100, 0, 0);
                PlayoutBuffer y = new PlayoutBuffer();
                y.setFrame(n);
                y.setWave(period, 99);
                y.setInitialDelay(0);
                y.setMargin(100);
                y.arrive(0);
                y.advance(1);
                if (period <= n / 2) {
                    Due.due("left(), period " + period + " of " + n, y.left(), n + period - 1);
                } else {
                    Due.due("left(), period " + period + " of " + n, y.left() <= n + n / 2 - 1 ? 1 : 0, 1);
                }
                x.advance(1);
                // a slope: |x(0) - x(p)| is 25 * p, so that 2 is the best while it rises
                if (n <= 8) {
                    Due.due("left(), a slope of " + n, x.left(), n + 1);
                }
            }
        }
    }

    private static void compressedAndStretchedSamples() {
        for (int n = 4; n <= 16; n++) {
            boolean[] seen = new boolean[9];
            for (int period : PERIODS) {
                for (int slope : SLOPES) {
                    compressedAndStretched(n, period, slope);
                    seen[Formulas.exactLag(Formulas.samples(n, period, slope, 0), n / 2)] = true;
                }
            }
            for (int p = 2; p <= n / 2; p++) {
                Due.due("there is a lag " + p + " of " + n, seen[p] ? 1 : 0, 1);
            }
        }
    }

    private static void compressedAndStretched(int n, int period, int slope) {
        PlayoutBuffer x = new PlayoutBuffer();
        x.setFrame(n);
        x.setWave(period, slope);
        x.setInitialDelay(0);
        x.setQuantile(1);
        x.setMargin(0);
        Due.arrive(x, 0, 3);
        String what = "wave " + period + ", " + slope + ", frames of " + n;
        for (int frame = 0; frame < 2; frame++) {
            int[] y = Formulas.compressed(Formulas.samples(n, period, slope, frame));
            Due.due(what + ": advance()", x.advance(y.length), y.length);
            Due.outputs(what + ", compressed", x, y);
            Due.due(what + ": left()", x.left(), 0);
        }
        x.setMargin(100);
        for (int frame = 2; frame < 4; frame++) {
            int[] y = Formulas.stretched(Formulas.samples(n, period, slope, frame));
            Due.due(what + ": advance()", x.advance(y.length), y.length);
            Due.outputs(what + ", stretched", x, y);
            Due.due(what + ": left()", x.left(), 0);
        }
        Due.due(what + ": compressed()", x.compressed(), 2);
        Due.due(what + ": stretched()", x.stretched(), 2);
    }

    /** "All quotients of integers are truncated towards 0.": below 0 as well as above. */
    private static void quotientsAreTruncatedTowardsZero() {
        PlayoutBuffer x = known(4, 0, 0, 0);
        x.setMargin(100);
        // the wave at first: -100 -75 -50 -25; z(0) = x(2), z(1) = (x(3) + x(1)) / 2
        x.advance(6);
        Due.outputs("slope 25", x, -100, -75, -50, -50, -50, -25);
        PlayoutBuffer y = new PlayoutBuffer();
        y.setFrame(4);
        y.setWave(4, 67);
        y.setInitialDelay(0);
        y.setMargin(100);
        y.arrive(0);
        y.advance(6);
        // -100 -33 34 -100: z(1) = (-100 - 33) / 2 = -66.5
        Due.outputs("slope 67", y, -100, -33, 34, -66, 34, -100);
        PlayoutBuffer z = new PlayoutBuffer();
        z.setFrame(4);
        z.setWave(4, 67);
        z.setInitialDelay(0);
        z.setMargin(0);
        z.setQuantile(1);
        Due.arrive(z, 0, 2);
        z.advance(2);
        // y(1) = (-33 - 100) / 2
        Due.outputs("slope 67, compressed", z, -100, -66);
        PlayoutBuffer w = new PlayoutBuffer();
        w.setFrame(4);
        w.setWave(4, 67);
        w.setInitialDelay(0);
        w.setAdapting(false);
        w.arrive(0);
        w.advance(8);
        // 34 * 3 / 4 = 25.5, -100 * 3 / 4 = -75
        Due.outputs("slope 67, concealed", w, 25, -75, 25, -75);
        w.advance(4);
        // the lag is 2 still: 25.. times 3 / 4 twice: 18, 13; -75: -56, -42
        Due.outputs("slope 67, concealed twice", w, 13, -42, 13, -42);
    }

    /** "If fewer than 4 samples have been output, all its samples are 0." */
    private static void concealedWithNothingBefore() {
        for (int n = 4; n <= 16; n++) {
            PlayoutBuffer x = known(n, 0, 3, 5);
            x.advance(3 * n);
            for (int back = 1; back <= 3 * n; back++) {
                Due.due("output(" + back + "), nothing was output before", x.output(back), 0);
            }
            Due.due("left(), a concealed frame has N samples", x.left(), 0);
            Due.due("next(), frames of " + n, x.next(), 3);
        }
    }

    /** "the p .. for which there are at least 2 * p of them": with 4 samples that is 2 alone, with 6 it is 3, too. */
    private static void concealedAfterFourSamples() {
        for (int n = 4; n <= 7; n++) {
            PlayoutBuffer x = new PlayoutBuffer();
            x.setFrame(n);
            x.setWave(3, 99);
            x.setInitialDelay(0);
            x.setAdapting(false);
            x.arrive(0);
            x.advance(n);
            int[] o = {0, x.output(1), x.output(2), x.output(3), x.output(4)};
            x.advance(n);
            int p = n < 6 ? 2 : 3;
            for (int j = 0; j < n; j++) {
                Due.due("concealed after " + n + ", sample " + j, x.output(n - j), o[p - j % p] * 3 / 4);
            }
        }
    }

    /** Frames that are concealed after all sorts of output, one to four in succession, and after a known frame again. */
    private static void concealedFrames() {
        boolean[] lags = new boolean[17];
        boolean[] sizes = new boolean[33];
        for (int n = 4; n <= 16; n++) {
            for (int before = 1; before <= 5; before++) {
                for (int margin : new int[] {0, 30, 100}) {
                    concealed(n, before, margin, PERIODS[(n + before) % 12], SLOPES[(n + 3 * before) % 10], lags, sizes);
                    concealed(n, before, margin, PERIODS[(n * 5 + before) % 12], SLOPES[(n + before) % 10], lags, sizes);
                    concealed(n, before, margin, 9 + (n + before) % 9, SLOPES[4 + before % 3], lags, sizes);
                }
            }
        }
        for (int p = 2; p <= 16; p++) {
            Due.due("there is a lag " + p, lags[p] ? 1 : 0, 1);
        }
        for (int size : new int[] {4, 5, 6, 7, 8, 9, 10, 29, 30, 31, 32}) {
            Due.due("there are " + size + " samples before", sizes[size] ? 1 : 0, 1);
        }
    }

    private static void concealed(int n, int before, int margin, int period, int slope, boolean[] lags, boolean[] sizes) {
        PlayoutBuffer x = known(n, margin, 0, -1);
        x.setWave(period, slope);
        Due.arrive(x, 0, before - 1);
        x.arrive(before + 4);
        while (x.next() < before) {
            passFrame(x);
        }
        for (int succession = 1; succession <= 4; succession++) {
            concealedNow(x, n, succession, lags, sizes);
        }
        passFrame(x);
        Due.due("kind(1)", x.kind(1), PlayoutBuffer.PLAYED);
        concealedNow(x, n, 1, lags, sizes);
    }

    /** Lets the next frame be taken and output, however long it is. */
    private static void passFrame(PlayoutBuffer x) {
        x.advance(1);
        if (x.left() > 0) {
            x.advance(x.left());
        }
    }

    /** The samples that were output, the last one first, as far as a lag can reach. */
    private static int[] latest(PlayoutBuffer x) {
        int[] o = new int[Math.min(32, x.outputs())];
        for (int i = 0; i < o.length; i++) {
            o[i] = x.output(i + 1);
        }
        return o;
    }

    private static void concealedNow(PlayoutBuffer x, int n, int succession, boolean[] lags, boolean[] sizes) {
        int[] o = latest(x);
        x.advance(n);
        Due.outputs("concealed, " + succession + " in succession after " + o.length, x,
                Formulas.concealed(o, n, succession));
        Due.due("left(), concealed", x.left(), 0);
        Due.due("kind(1), concealed", x.kind(1), PlayoutBuffer.CONCEALED);
        lags[Formulas.concealedLag(o)] = true;
        sizes[o.length] = true;
    }

    /** "and this as often as frames were concealed in succession, this one included": until nothing is left to hear. */
    private static void concealedUntilSilence() {
        PlayoutBuffer x = known(4, 0, 0, 0);
        x.advance(4);
        int[] o = {-25, -50, -75, -100};
        for (int succession = 1; succession <= 20; succession++) {
            int[] y = Formulas.concealed(o, 4, succession);
            x.advance(4);
            Due.outputs("concealed, " + succession + " in succession", x, y);
            o = new int[] {y[3], y[2], y[1], y[0]};
        }
        Due.due("longestGap()", x.longestGap(), 20);
        Due.due("output(1), silence", Arrays.stream(o).map(Math::abs).sum(), 0);
    }

    /** A frame that is played or restored ends the succession, one that arrives late does not. */
    private static void successionEndsWithAKnownFrame() {
        for (int kind = 1; kind <= 3; kind++) {
            PlayoutBuffer x = known(4, 0, 0, -1);
            x.setAdapting(false);
            x.setWave(4, 67);
            Due.arrive(x, 0, 3);
            if (kind == PlayoutBuffer.PLAYED) {
                x.arrive(5);
            } else if (kind == PlayoutBuffer.RESTORED) {
                Due.arrive(x, 9, 9);
                Due.arrive(x, 13, 13);
                x.arriveParity(false, 0, 1);
            }
            x.advance(24);
            if (kind == PlayoutBuffer.CONCEALED) {
                x.arrive(5);
            }
            Due.due("kind(1)", x.kind(1), kind);
            int[] o = latest(x);
            x.advance(4);
            Due.due("kind(1), then", x.kind(1), PlayoutBuffer.CONCEALED);
            Due.outputs("concealed after kind " + kind, x, Formulas.concealed(o, 4, kind == 3 ? 3 : 1));
        }
    }
}
