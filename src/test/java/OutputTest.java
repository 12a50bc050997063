/** Promises 14 to 18: output; with what the document says of taking a frame. */
public final class OutputTest {
    public static void main(String[] args) {
        output();
        compressedFrame();
        compressedFrameWithLongLag();
        stretchedFrame();
        stretchedFrameWithLongLag();
        lagsAreComparedAsFractions();
        concealedWithoutPast();
        concealedFrames();
        concealedLagIsComparedTruncated();
        concealedLagReachesSixteen();
        outputs();
        left();
        next();
        kind();
        Due.end();
    }

    private static PlayoutBuffer plain(int samples) {
        PlayoutBuffer x = new PlayoutBuffer();
        x.setInitialDelay(0);
        x.setFrame(samples);
        return x;
    }

    private static void output() {
        PlayoutBuffer x = plain(8);
        x.setAdapting(false);
        Due.arrive(x, 0, 40);
        Due.due("14: output(0)", x.output(0), PlayoutBuffer.BAD_VALUE);
        Due.due("14: output(-1)", x.output(-1), PlayoutBuffer.BAD_VALUE);
        Due.due("14: output(257)", x.output(257), PlayoutBuffer.BAD_VALUE);
        Due.due("14: output(256)", x.output(256), PlayoutBuffer.NONE);
        Due.due("14: output(1)", x.output(1), PlayoutBuffer.NONE);
        x.advance(12);
        Due.outputs("14", x, -100, -75, -50, -25, 0, 25, 50, 75, 100, -76, -51, -26);
        Due.due("14: output(12)", x.output(12), -100);
        Due.due("14: output(13)", x.output(13), PlayoutBuffer.NONE);
        x.advance(243);
        Due.due("14: output(256)", x.output(256), PlayoutBuffer.NONE);
        Due.due("14: output(255)", x.output(255), -100);
        x.advance(1);
        Due.due("14: output(256)", x.output(256), -100);
        x.advance(1);
        Due.due("14: output(256)", x.output(256), -75);
        Due.due("14: output(257)", x.output(257), PlayoutBuffer.BAD_VALUE);
        PlayoutBuffer other = plain(8);
        for (int back = 1; back <= 256; back++) {
            int place = 257 - back;
            Due.due("14: output(" + back + ")", x.output(back), other.sample(place / 8, place % 8));
        }
    }

    private static void compressedFrame() {
        PlayoutBuffer x = plain(4);
        x.setMargin(0);
        x.setQuantile(1);
        // the level must be greater than 0 + 4: two frames more
        Due.arrive(x, 0, 1);
        x.advance(1);
        Due.due("14: compressed(), the level is 4", x.compressed(), 0);
        x = plain(4);
        x.setMargin(0);
        x.setQuantile(1);
        Due.arrive(x, 0, 2);
        x.advance(2);
        Due.due("14: compressed(), the level is 8", x.compressed(), 1);
        Due.due("14: left()", x.left(), 0);
        Due.outputs("14: compressed", x, -100, -50);
        // y(i) weighs towards x(i + p), and is truncated towards 0
        x = plain(6);
        x.setMargin(0);
        x.setQuantile(1);
        x.setWave(3, 131);
        Due.arrive(x, 0, 2);
        // -100, 31, -39 twice: the lag is 3, and it is compressed to itself
        x.advance(3);
        Due.outputs("14: compressed, of period 3", x, -100, 31, -39);
        Due.due("14: left()", x.left(), 0);
    }

    private static void compressedFrameWithLongLag() {
        // 10 samples: -100, -1, 98, -4, 95, -100, -1, 98, -4, 95: the lag is 5
        PlayoutBuffer x = plain(11);
        x.setWave(5, 99);
        x.setMargin(0);
        x.setQuantile(1);
        Due.arrive(x, 0, 2);
        x.advance(6);
        Due.outputs("14: compressed, lag 5 of 11", x, -100, -1, 98, -4, 95, -100);
        Due.due("14: left()", x.left(), 0);
        Due.due("14: compressed()", x.compressed(), 1);
        // 8 samples of a slope 40: -100 -60 -20 20 60 100 -61 -21, p = 2: (80 + 80) / 2, p = 3: (120 + 120 + 120) / 3,
        // p = 4: (160 + 160 + 41 + 41) / 4 = 100.5
        x = plain(8);
        x.setWave(16, 40);
        x.setMargin(0);
        x.setQuantile(1);
        Due.arrive(x, 0, 3);
        x.advance(6);
        Due.outputs("14: compressed, lag 2 of 8", x, -100, -20, 60, 100, -61, -21);
        // frame 1: 19 59 99 -62 -22 18 58 98, p = 2: (80 + 121) / 2 = 100.5, p = 3: (81 + 81 + 81) / 3 = 81,
        // p = 4: (41 + 41 + 41 + 160) / 4 = 70.75; y: 19, (59 * 3 + 18) / 4, (99 * 2 + 58 * 2) / 4, (-62 + 98 * 3) / 4
        x.advance(4);
        Due.due("14: compressed()", x.compressed(), 2);
        Due.outputs("14: compressed, lag 4 of 8", x, 19, 48, 78, 58);
        Due.due("14: left()", x.left(), 0);
    }

    private static void stretchedFrame() {
        PlayoutBuffer x = plain(4);
        x.setMargin(4);
        x.arrive(0);
        x.advance(1);
        Due.due("14: stretched(), 0 + 4 is not less than 4", x.stretched(), 0);
        x = plain(4);
        x.setMargin(5);
        x.arrive(0);
        x.advance(6);
        Due.due("14: stretched(), 0 + 4 is less than 5", x.stretched(), 1);
        // x(0) x(1) z(0) z(1) x(2) x(3), where z(0) is x(2) and z(1) is (x(3) + x(1)) / 2
        Due.outputs("14: stretched", x, -100, -75, -50, -50, -50, -25);
        Due.due("14: left()", x.left(), 0);
    }

    private static void stretchedFrameWithLongLag() {
        PlayoutBuffer x = plain(8);
        x.setWave(16, 40);
        x.setMargin(100);
        Due.arrive(x, 0, 1);
        x.advance(10);
        Due.outputs("14: stretched, lag 2 of 8", x, -100, -60, -20, (20 - 60) / 2, -20, 20, 60, 100, -61, -21);
        // frame 1 has the lag 4: z: -22, (18 * 3 + 59) / 4, (58 * 2 + 99 * 2) / 4, (98 - 62 * 3) / 4
        x.advance(12);
        Due.due("14: stretched()", x.stretched(), 2);
        Due.outputs("14: stretched, lag 4 of 8", x, 19, 59, 99, -62, -22, 28, 78, -22, -22, 18, 58, 98);
        Due.due("14: left()", x.left(), 0);
        // a frame of 16 samples with the lag 8 has 24: the most that there are
        x = plain(16);
        x.setWave(8, 60);
        x.setMargin(100);
        x.arrive(0);
        x.advance(1);
        Due.due("14: left()", x.left(), 23);
        x.advance(23);
        Due.due("14: left()", x.left(), 0);
        for (int i = 0; i < 24; i++) {
            Due.due("14: stretched, lag 8 of 16", x.output(24 - i), x.sample(0, i % 8));
        }
    }

    private static void lagsAreComparedAsFractions() {
        // -100, -70, -40, -10, 20, 50, -100, -70: p = 2: 120 / 2, p = 3: 270 / 3, p = 4: (120 + 120 + 60 + 60) / 4
        PlayoutBuffer x = plain(8);
        x.setWave(6, 30);
        x.setMargin(100);
        x.arrive(0);
        x.advance(1);
        Due.due("14: left(), the lag is 2", x.left(), 9);
        // frame 1 of the wave at first: 201 / 2, 276 / 3, 401 / 4, so 3 (truncated, too); frame 0 of slope 67:
        // -100 -33 34 -100 -33 34 -100 -33: the lag is 3
        x = plain(8);
        x.setWave(16, 67);
        x.setMargin(100);
        x.arrive(0);
        x.advance(1);
        Due.due("14: left(), the lag is 3", x.left(), 10);
        fractionsDecide();
    }

    /** Looks for waves in which truncated quotients would choose another lag, and compares the lengths of frames. */
    private static void fractionsDecide() {
        int differing = 0;
        for (int slope = 1; slope <= 200; slope++) {
            PlayoutBuffer x = plain(16);
            x.setWave(32, slope);
            x.setMargin(100);
            x.arrive(0);
            x.advance(1);
            int exact = 2;
            int truncated = 2;
            for (int p = 3; p <= 8; p++) {
                // cross products of longs, which no quotient enters
                exact = (long) sum(x, p) * exact < (long) sum(x, exact) * p ? p : exact;
                truncated = sum(x, p) / p < sum(x, truncated) / truncated ? p : truncated;
            }
            Due.due("14: left(), slope " + slope, x.left(), 16 + exact - 1);
            PlayoutBuffer y = plain(16);
            y.setWave(32, slope);
            y.setMargin(0);
            y.setQuantile(1);
            Due.arrive(y, 0, 2);
            y.advance(1);
            Due.due("14: left(), compressed, slope " + slope, y.left(), 16 - exact - 1);
            differing += exact != truncated ? 1 : 0;
        }
        Due.due("14: there are such waves", differing > 0 ? 1 : 0, 1);
    }

    private static int sum(PlayoutBuffer x, int p) {
        int sum = 0;
        for (int i = 0; i < p; i++) {
            sum += Math.abs(x.sample(0, i) - x.sample(0, i + p));
        }
        return sum;
    }

    private static void concealedWithoutPast() {
        PlayoutBuffer x = plain(4);
        x.arrive(5);
        x.advance(4);
        Due.outputs("14: concealed, nothing was output", x, 0, 0, 0, 0);
        Due.due("14: left()", x.left(), 0);
        // nor does it matter what was output in a past that is gone
        x = plain(4);
        x.keep(0);
        Due.arrive(x, 0, 4);
        x.advance(3);
        x.restore(0);
        x.arrive(5);
        x.advance(4);
        Due.outputs("14: concealed, after restore", x, 0, 0, 0, 0);
    }

    private static void concealedFrames() {
        PlayoutBuffer x = plain(4);
        x.setAdapting(false);
        x.arrive(0);
        x.advance(4);
        // -100 -75 -50 -25: the lag is 2 alone; o(2), o(1), o(2), o(1), times 3, divided by 4
        x.advance(4);
        Due.outputs("14: concealed once", x, -100, -75, -50, -25, -37, -18, -37, -18);
        // now o: -18 -37 -18 -37 -25 ..: p = 2: 0 / 2; twice 3 / 4: -37, -27, -20 and -18, -13, -9
        x.advance(4);
        Due.outputs("14: concealed twice", x, -20, -9, -20, -9);
        // three times: -20, -15, -11, -8 and -9, -6, -4, -3
        x.advance(4);
        Due.outputs("14: concealed three times", x, -8, -3, -8, -3);
        PlayoutBuffer y = plain(8);
        y.setWave(5, 99);
        y.setAdapting(false);
        Due.arrive(y, 0, 1);
        y.advance(16);
        // -100 -1 98 -4 95, three times, and -100: the lag is 5, o(5) to o(1) are -1 98 -4 95 -100
        y.advance(8);
        Due.outputs("14: concealed with lag 5", y, 0, 73, -3, 71, -75, 0, 73, -3);
        // a frame that is played ends the succession: the one concealed after it fades once
        PlayoutBuffer z = plain(4);
        z.setWave(4, 25);
        z.setAdapting(false);
        Due.arrive(z, 0, 7);
        Due.arrive(z, 10, 17);
        z.advance(40);
        Due.outputs("14: concealed with lag 4, twice", z, -75, -56, -37, -18, -56, -42, -27, -13);
        z.advance(36);
        Due.outputs("14: concealed with lag 4, once again", z, -100, -75, -50, -25, -75, -56, -37, -18);
    }

    private static void concealedLagIsComparedTruncated() {
        // The document truncates all quotients, and excepts those of stretched and compressed frames alone.
        int differing = 0;
        for (int slope = 1; slope <= 200; slope++) {
            PlayoutBuffer x = plain(8);
            x.setAdapting(false);
            x.setWave(29, slope);
            Due.arrive(x, 0, 3);
            x.advance(32);
            int[] o = new int[33];
            for (int i = 1; i <= 32; i++) {
                o[i] = x.output(i);
            }
            int truncated = 2;
            int exact = 2;
            for (int p = 3; p <= 16; p++) {
                truncated = sum(o, p) / p < sum(o, truncated) / truncated ? p : truncated;
                exact = sum(o, p) * exact < sum(o, exact) * p ? p : exact;
            }
            x.advance(8);
            for (int j = 0; j < 8; j++) {
                int due = o[truncated - j % truncated] * 3 / 4;
                Due.due("14: concealed, slope " + slope + ", sample " + j, x.output(8 - j), due);
            }
            differing += exact != truncated ? 1 : 0;
        }
        Due.due("14: there are such waves", differing > 0 ? 1 : 0, 1);
    }

    private static int sum(int[] o, int p) {
        int sum = 0;
        for (int i = 1; i <= p; i++) {
            sum += Math.abs(o[i] - o[i + p]);
        }
        return sum;
    }

    private static void concealedLagReachesSixteen() {
        PlayoutBuffer x = plain(16);
        x.setWave(16, 97);
        x.setAdapting(false);
        Due.arrive(x, 0, 1);
        x.advance(32);
        x.advance(16);
        for (int j = 0; j < 16; j++) {
            Due.due("14: concealed with lag 16", x.output(16 - j), x.sample(0, j) * 3 / 4);
        }
        // a period of 17 is out of reach
        PlayoutBuffer y = plain(16);
        y.setWave(17, 97);
        y.setAdapting(false);
        Due.arrive(y, 0, 2);
        y.advance(48);
        int first = y.output(17) * 3 / 4;
        int second = y.output(16) * 3 / 4;
        y.advance(16);
        Due.due("14: the lag is not 17", y.output(16) == first && y.output(15) == second ? 1 : 0, 0);
    }

    private static void outputs() {
        PlayoutBuffer x = new PlayoutBuffer();
        x.arrive(0);
        x.advance(16);
        Due.due("15: outputs()", x.outputs(), 0);
        x.advance(1);
        Due.due("15: outputs()", x.outputs(), 1);
        Due.pass(x, 999);
        Due.due("15: outputs()", x.outputs(), 1000);
        // frame 0 is output as it is, the others are concealed: 8000 samples in all
        Due.pass(x, 8000);
        Due.due("15: outputs() at the end", x.outputs(), 8000);
    }

    private static void left() {
        PlayoutBuffer x = plain(4);
        x.setAdapting(false);
        x.arrive(0);
        Due.due("16: left()", x.left(), 0);
        x.advance(1);
        Due.due("16: left()", x.left(), 3);
        x.advance(3);
        Due.due("16: left()", x.left(), 0);
        x.advance(1);
        Due.due("16: left() of a concealed frame", x.left(), 3);
    }

    private static void next() {
        PlayoutBuffer x = plain(16);
        x.setAdapting(false);
        Due.due("17: next()", x.next(), 0);
        x.arrive(3);
        Due.due("17: next()", x.next(), 0);
        x.advance(1);
        Due.due("17: next()", x.next(), 1);
        x.advance(15);
        Due.due("17: next()", x.next(), 1);
        Due.pass(x, 998 * 16);
        Due.due("17: next()", x.next(), 999);
        x.advance(1);
        Due.due("17: next(), 999 has been taken", x.next(), PlayoutBuffer.NONE);
        x.advance(100);
        Due.due("17: next(), at the end", x.next(), PlayoutBuffer.NONE);
    }

    private static void kind() {
        PlayoutBuffer x = plain(4);
        x.setAdapting(false);
        Due.due("18: kind(0)", x.kind(0), PlayoutBuffer.BAD_VALUE);
        Due.due("18: kind(33)", x.kind(33), PlayoutBuffer.BAD_VALUE);
        Due.due("18: kind(-7)", x.kind(-7), PlayoutBuffer.BAD_VALUE);
        Due.due("18: kind(32)", x.kind(32), PlayoutBuffer.NONE);
        Due.arrive(x, 0, 2);
        x.arriveParity(true, 0, 0);
        x.advance(20);
        Due.due("18: kind(1)", x.kind(1), PlayoutBuffer.CONCEALED);
        Due.due("18: kind(2)", x.kind(2), PlayoutBuffer.RESTORED);
        Due.due("18: kind(3)", x.kind(3), PlayoutBuffer.PLAYED);
        Due.due("18: kind(5)", x.kind(5), PlayoutBuffer.PLAYED);
        Due.due("18: kind(6)", x.kind(6), PlayoutBuffer.NONE);
        // a frame that is concealed and arrives then stays concealed
        x.arrive(4);
        Due.due("18: kind(1) stays", x.kind(1), PlayoutBuffer.CONCEALED);
        // a frame that arrives after it was restored is not PLAYED
        PlayoutBuffer y = plain(4);
        Due.arrive(y, 1, 3);
        y.arriveParity(true, 0, 0);
        y.arrive(0);
        y.advance(1);
        Due.due("18: kind(1)", y.kind(1), PlayoutBuffer.RESTORED);
        PlayoutBuffer z = plain(4);
        z.setAdapting(false);
        z.arrive(0);
        z.advance(4 * 31);
        Due.due("18: kind(31)", z.kind(31), PlayoutBuffer.PLAYED);
        Due.due("18: kind(32)", z.kind(32), PlayoutBuffer.NONE);
        z.advance(1);
        Due.due("18: kind(32)", z.kind(32), PlayoutBuffer.PLAYED);
        z.advance(4);
        Due.due("18: kind(32)", z.kind(32), PlayoutBuffer.CONCEALED);
    }
}
