/**
 * "Makes everything except the text and the slots as it was kept": from the first to the last of all samples, kinds,
 * frames and packets; and predictions that need the last of them.
 */
public final class ExtentTest {
    private static final int[][] SHAPES = {{2, 2}, {3, 2}, {4, 4}, {5, 5}, {2, 6}, {6, 6}};

    public static void main(String[] args) {
        everySampleComesBack();
        everyKindComesBack();
        for (int[] shape : SHAPES) {
            everyFrameComesBack(shape[0], shape[1]);
            everyRestoredFrameComesBack(shape[0], shape[1]);
            everyPacketComesBack(shape[0], shape[1]);
        }
        longestFrameGoesOn();
        lastFramesAreForeseen();
        lastPacketsAreForeseen();
        Due.end();
    }

    private static PlayoutBuffer plain(int samples, int columns, int rows) {
        PlayoutBuffer x = new PlayoutBuffer();
        x.setFrame(samples);
        x.setBlock(columns, rows);
        x.setInitialDelay(0);
        x.setAdapting(false);
        return x;
    }

    /** "1 for the one that was output last, up to 256" */
    private static void everySampleComesBack() {
        for (int passed : new int[] {1, 31, 200, 255, 256, 257, 300}) {
            PlayoutBuffer x = plain(16, 4, 4);
            x.setWave(31, 57);
            Due.arrive(x, 0, passed / 16);
            Due.pass(x, passed);
            x.keep(1);
            x.advance(500);
            x.restore(1);
            for (int back = 1; back <= 256; back++) {
                Due.due("14: output(" + back + ") of " + passed, x.output(back),
                        back > passed ? PlayoutBuffer.NONE : Formulas.wave(31, 57, passed - back));
            }
        }
    }

    /** "1 for the one that was taken last, up to 32" */
    private static void everyKindComesBack() {
        for (int frames : new int[] {1, 31, 32, 33, 50, 64}) {
            PlayoutBuffer x = plain(4, 2, 6);
            for (int frame = 0; frame < frames; frame++) {
                if (frame % 3 != 1) {
                    x.arrive(frame);
                }
            }
            Due.pass(x, 4 * frames);
            x.keep(0);
            // the frame 32 after a concealed one is played, and the one after a played one is concealed
            for (int frame = frames; frame < frames + 64; frame++) {
                if ((frame + 1) % 3 == 1) {
                    x.arrive(frame);
                }
            }
            x.advance(128);
            x.restore(0);
            for (int back = 1; back <= 32; back++) {
                int kind = (frames - back) % 3 == 1 ? PlayoutBuffer.CONCEALED : PlayoutBuffer.PLAYED;
                Due.due("18: kind(" + back + ") of " + frames, x.kind(back), back > frames ? PlayoutBuffer.NONE : kind);
            }
        }
    }

    private static void everyFrameComesBack(int columns, int rows) {
        for (int frame = 0; frame <= 999; frame++) {
            PlayoutBuffer x = plain(4, columns, rows);
            x.keep(0);
            x.arrive(frame);
            x.keep(1);
            x.restore(0);
            Due.due("19: state(" + frame + "), it has not arrived then", x.state(frame), 0);
            x.restore(1);
            Due.due("19: state(" + frame + "), it has arrived then", x.state(frame), 2);
            Due.due("9: arrive(" + frame + "), once more", x.arrive(frame), 0);
            x.restore(0);
            Due.due("9: arrive(" + frame + "), as if for the first time", x.arrive(frame), 1);
        }
    }

    /** In each block, the last frame of its first row is restored, up to frame 999. */
    private static void everyRestoredFrameComesBack(int columns, int rows) {
        for (int first = 0; first <= 999; first += columns * rows) {
            int last = Math.min(999, first + columns - 1);
            if (last == first) {
                continue;
            }
            PlayoutBuffer x = plain(4, columns, rows);
            Due.arrive(x, first, last - 1);
            x.keep(0);
            Due.due("10: arriveParity(true, .., 0)", x.arriveParity(true, first / (columns * rows), 0), 1);
            x.keep(1);
            x.restore(0);
            Due.due("19: state(" + last + "), not restored then", x.state(last), 0);
            x.restore(1);
            Due.due("19: state(" + last + "), restored then", x.state(last), 1);
            Due.due("19: state(" + first + "), arrived then", x.state(first), 2);
        }
    }

    private static void everyPacketComesBack(int columns, int rows) {
        for (int block = 0; block <= 999 / (columns * rows); block++) {
            for (int index = 0; index < columns + rows; index++) {
                boolean row = index < rows;
                int number = row ? index : index - rows;
                PlayoutBuffer x = plain(4, columns, rows);
                x.keep(0);
                x.arriveParity(row, block, number);
                x.keep(1);
                x.restore(0);
                x.arriveParity(row, block, number);
                Due.due("32: duplicates(), it has not arrived then", x.duplicates(), 0);
                x.restore(1);
                x.arriveParity(row, block, number);
                Due.due("32: duplicates(), it has arrived then", x.duplicates(), 1);
            }
        }
    }

    /** A stretched frame of 16 samples with the lag 8 has 24: the most that there can be. */
    private static void longestFrameGoesOn() {
        int[] samples = Formulas.stretched(Formulas.samples(16, 9, 25, 0));
        Due.due("the longest frame", samples.length, 24);
        for (int passed = 1; passed < 24; passed++) {
            for (int slot = 0; slot < 2; slot++) {
                PlayoutBuffer x = plain(16, 4, 4);
                x.setWave(9, 25);
                x.setAdapting(true);
                x.setMargin(100);
                x.arrive(0);
                x.advance(passed);
                x.keep(slot);
                // another frame of 24 samples takes its place
                x.arrive(1);
                x.advance(40);
                x.restore(slot);
                Due.due("16: left(), kept after " + passed, x.left(), 24 - passed);
                Due.due("11: advance()", x.advance(24 - passed), 24 - passed);
                Due.due("17: next()", x.next(), 1);
                Due.outputs("the longest frame, kept after " + passed, x, samples);
            }
        }
    }

    /** Any of the last four frames may have arrived: they are the last block. */
    private static void lastFramesAreForeseen() {
        for (int subset = 0; subset < 16; subset++) {
            PlayoutBuffer x = plain(4, 2, 2);
            x.arriveParity(true, 0, 0);
            int gaps = 0;
            int toGap = PlayoutBuffer.NONE;
            for (int i = 3; i >= 0; i--) {
                if ((subset >> i & 1) != 0) {
                    x.arrive(996 + i);
                } else {
                    gaps++;
                    toGap = 4 * i;
                }
            }
            Due.pass(x, 4 * 996);
            Due.due("17: next()", x.next(), 996);
            Due.due("35: ticksToGap(), known " + subset, x.ticksToGap(), toGap);
            Due.due("36: gapsIn(1000), known " + subset, x.gapsIn(1000), gaps);
            Due.due("37: ticksToFrame(999), known " + subset, x.ticksToFrame(999), 12);
            Due.due("11: advance(500)", x.advance(500), 16);
            for (int i = 0; i < 4; i++) {
                int kind = (subset >> i & 1) != 0 ? PlayoutBuffer.PLAYED : PlayoutBuffer.CONCEALED;
                Due.due("18: kind(" + (4 - i) + "), known " + subset, x.kind(4 - i), kind);
            }
        }
    }

    /** A scheduled frame and a packet of the last block restore another one, and this is foreseen. */
    private static void lastPacketsAreForeseen() {
        String[] scheduled = {"d998@3986;d996@3984;", "d996@3984;d997@3985;"};
        for (int i = 0; i < 2; i++) {
            PlayoutBuffer x = plain(4, 2, 2);
            x.arriveParity(i == 0, 249, 1);
            Due.pass(x, 3983);
            Due.schedule(x, scheduled[i]);
            // the row of 998 and 999, or the column of 997 and 999
            Due.due("36: gapsIn(1000)", x.gapsIn(1000), 1);
            Due.due("35: ticksToGap()", x.ticksToGap(), i == 0 ? 5 : 9);
            Due.pass(x, 500);
            Due.due("19: state(999)", x.state(999), 1);
            Due.due("18: kind(1)", x.kind(1), PlayoutBuffer.RESTORED);
        }
    }
}
