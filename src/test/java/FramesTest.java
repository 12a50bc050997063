/** Promises 19 to 23: frames and parity. */
public final class FramesTest {
    public static void main(String[] args) {
        state();
        sample();
        missing();
        unrestorable();
        unrestorableOfLastBlock();
        paritySample();
        Due.end();
    }

    private static void state() {
        PlayoutBuffer x = new PlayoutBuffer();
        Due.due("19: state(-1)", x.state(-1), PlayoutBuffer.BAD_VALUE);
        Due.due("19: state(1000)", x.state(1000), PlayoutBuffer.BAD_VALUE);
        Due.due("19: state(MAX)", x.state(Integer.MAX_VALUE), PlayoutBuffer.BAD_VALUE);
        Due.arrive(x, 4, 6);
        x.arriveParity(true, 0, 1);
        x.arrive(999);
        for (int frame = 0; frame <= 999; frame += 2) {
            int want = frame == 4 || frame == 6 ? 2 : 0;
            Due.due("19: state(" + frame + ")", x.state(frame), want);
        }
        x = new PlayoutBuffer();
        Due.arrive(x, 4, 6);
        x.arriveParity(true, 0, 1);
        x.arrive(999);
        for (int frame = 1; frame <= 999; frame += 2) {
            int want = frame == 7 ? 1 : frame == 5 || frame == 999 ? 2 : 0;
            Due.due("19: state(" + frame + ")", x.state(frame), want);
        }
        x = new PlayoutBuffer();
        Due.arrive(x, 4, 6);
        x.arriveParity(true, 0, 1);
        x.arrive(7);
        Due.due("19: state(7), arrived after it was restored", x.state(7), 1);
        Due.schedule(x, "d50@3;");
        x.advance(3);
        Due.due("19: state(50), scheduled", x.state(50), 0);
        x.advance(1);
        Due.due("19: state(50), arrived", x.state(50), 2);
    }

    private static void sample() {
        PlayoutBuffer x = new PlayoutBuffer();
        Due.due("20: sample(-1, 0)", x.sample(-1, 0), PlayoutBuffer.BAD_VALUE);
        Due.due("20: sample(1000, 0)", x.sample(1000, 0), PlayoutBuffer.BAD_VALUE);
        Due.due("20: sample(0, -1)", x.sample(0, -1), PlayoutBuffer.BAD_VALUE);
        Due.due("20: sample(0, 8)", x.sample(0, 8), PlayoutBuffer.BAD_VALUE);
        Due.due("20: sample(0, MAX)", x.sample(0, Integer.MAX_VALUE), PlayoutBuffer.BAD_VALUE);
        int[] wave = {-100, -75, -50, -25, 0, 25, 50, 75, 100, -76, -51, -26, -1, 24, 49, 74};
        for (int i = 0; i < 8000; i++) {
            // an object is used for 512 calls at most
            x = i % 500 == 0 ? new PlayoutBuffer() : x;
            Due.due("20: sample(" + i / 8 + ", " + i % 8 + ")", x.sample(i / 8, i % 8), wave[i % 16]);
        }
        x = new PlayoutBuffer();
        x.setFrame(5);
        x.setWave(3, 200);
        // 0, 200, 400 - 201
        Due.due("20: sample(1, 0)", x.sample(1, 0), 99);
        Due.due("20: sample(1, 1)", x.sample(1, 1), -100);
        Due.due("20: sample(1, 2)", x.sample(1, 2), 100);
        // 4999 is 1 above a multiple of 3
        Due.due("20: sample(999, 4)", x.sample(999, 4), 100);
        Due.due("20: sample(999, 5)", x.sample(999, 5), PlayoutBuffer.BAD_VALUE);
    }

    private static void missing() {
        PlayoutBuffer x = new PlayoutBuffer();
        int[][] bad = {{1, -1, 0}, {1, 63, 0}, {0, 63, 0}, {1, 0, 4}, {0, 0, 4}, {1, 0, -1}, {0, 1, -1},
            {0, Integer.MIN_VALUE, 1}, {1, Integer.MAX_VALUE, 1}, {1, 1, Integer.MIN_VALUE}};
        for (int[] b : bad) {
            Due.due("21: missing, wrong", x.missing(b[0] == 1, b[1], b[2]), PlayoutBuffer.BAD_VALUE);
        }
        Due.due("21: missing(true, 1, 2)", x.missing(true, 1, 2), 4);
        x.arrive(25);
        Due.due("21: missing(true, 1, 2)", x.missing(true, 1, 2), 3);
        Due.due("21: missing(false, 1, 1)", x.missing(false, 1, 1), 3);
        Due.due("21: missing(false, 1, 2)", x.missing(false, 1, 2), 4);
        Due.due("21: missing(true, 2, 2)", x.missing(true, 2, 2), 4);
        x.arrive(24);
        x.arrive(26);
        x.arriveParity(true, 1, 2);
        Due.due("21: missing(true, 1, 2), all known", x.missing(true, 1, 2), 0);
        Due.due("21: missing(false, 1, 3), one restored", x.missing(false, 1, 3), 3);
        // the last block has 992 to 1007: the rows 2 and 3 are above 999
        Due.due("21: missing(true, 62, 1)", x.missing(true, 62, 1), 4);
        Due.due("21: missing(true, 62, 2)", x.missing(true, 62, 2), 0);
        Due.due("21: missing(true, 62, 3)", x.missing(true, 62, 3), 0);
        Due.due("21: missing(false, 62, 3)", x.missing(false, 62, 3), 2);
        x.arrive(999);
        Due.due("21: missing(false, 62, 3)", x.missing(false, 62, 3), 1);
    }

    private static void unrestorable() {
        PlayoutBuffer x = new PlayoutBuffer();
        Due.due("22: unrestorable(-1)", x.unrestorable(-1), PlayoutBuffer.BAD_VALUE);
        Due.due("22: unrestorable(63)", x.unrestorable(63), PlayoutBuffer.BAD_VALUE);
        Due.due("22: unrestorable(MAX)", x.unrestorable(Integer.MAX_VALUE), PlayoutBuffer.BAD_VALUE);
        Due.due("22: unrestorable(0)", x.unrestorable(0), 16);
        // rows and columns take turns: 0 to 2 give 3; 4, 8 and the column give 12; and so on
        Due.arrive(x, 0, 2);
        Due.due("22: unrestorable(0)", x.unrestorable(0), 12);
        x.arrive(4);
        x.arrive(8);
        Due.due("22: unrestorable(0)", x.unrestorable(0), 9);
        x.arrive(5);
        x.arrive(6);
        // row 1 gives 7; the missing ones are 9 10 11, 13 14 15
        Due.due("22: unrestorable(0)", x.unrestorable(0), 6);
        x.arrive(9);
        // column 1 gives 13; a square of four is left
        Due.due("22: unrestorable(0)", x.unrestorable(0), 4);
        x.arrive(15);
        Due.due("22: unrestorable(0)", x.unrestorable(0), 0);
        Due.due("22: state(3), nothing is changed", x.state(3), 0);
        Due.due("22: unrestorable(1)", x.unrestorable(1), 16);
        PlayoutBuffer y = new PlayoutBuffer();
        y.setBlock(6, 6);
        for (int frame = 0; frame < 36; frame++) {
            if (frame % 6 != frame / 6) {
                y.arrive(frame);
            }
        }
        Due.due("22: unrestorable(0), a diagonal", y.unrestorable(0), 0);
        // one of each row and column of the diagonal comes back at a time only
        PlayoutBuffer z = new PlayoutBuffer();
        z.setBlock(6, 6);
        // what is missing is a stair: (0,0) (0,1) (1,1) (1,2) (2,2) .. (5,5)
        for (int frame = 0; frame < 36; frame++) {
            int step = frame % 6 - frame / 6;
            if (step != 0 && step != 1) {
                z.arrive(frame);
            }
        }
        Due.due("22: unrestorable(0), a stair", z.unrestorable(0), 0);
    }

    private static void unrestorableOfLastBlock() {
        PlayoutBuffer x = new PlayoutBuffer();
        // 992 to 999 are two rows of four
        Due.due("22: unrestorable(62)", x.unrestorable(62), 8);
        Due.arrive(x, 992, 994);
        // row 0 gives 995, and then the columns give 996 to 999
        Due.due("22: unrestorable(62)", x.unrestorable(62), 0);
        PlayoutBuffer y = new PlayoutBuffer();
        y.setBlock(3, 3);
        // 111 * 9 is 999: it is restored by its row
        Due.due("22: unrestorable(111)", y.unrestorable(111), 0);
        Due.due("22: unrestorable(112)", y.unrestorable(112), PlayoutBuffer.BAD_VALUE);
        Due.due("22: unrestorable(110)", y.unrestorable(110), 9);
        PlayoutBuffer z = new PlayoutBuffer();
        z.setBlock(2, 2);
        Due.due("22: unrestorable(249)", z.unrestorable(249), 4);
        Due.due("22: unrestorable(250)", z.unrestorable(250), PlayoutBuffer.BAD_VALUE);
    }

    private static void paritySample() {
        PlayoutBuffer x = new PlayoutBuffer();
        int[][] bad = {{1, -1, 0, 0}, {1, 63, 0, 0}, {1, 0, 4, 0}, {0, 0, 4, 0}, {1, 0, 0, -1}, {1, 0, 0, 8},
            {0, 0, -1, 0}, {0, Integer.MAX_VALUE, 0, 0}, {1, 0, 0, Integer.MAX_VALUE}};
        for (int[] b : bad) {
            Due.due("23: paritySample, wrong", x.paritySample(b[0] == 1, b[1], b[2], b[3]), PlayoutBuffer.BAD_VALUE);
        }
        x.setBlock(3, 2);
        // row 1: the frames 3, 4, 5, with the samples -76, -75, -76 at 1
        Due.due("23: paritySample(true, 0, 1, 1)", x.paritySample(true, 0, 1, 1), 52 ^ 53 ^ 52);
        // column 2: the frames 2 and 5, with the samples 75 and 74 at 7
        Due.due("23: paritySample(false, 0, 2, 7)", x.paritySample(false, 0, 2, 7), 203 ^ 202);
        Due.due("23: paritySample(false, 0, 3, 7)", x.paritySample(false, 0, 3, 7), PlayoutBuffer.BAD_VALUE);
        Due.due("23: paritySample(true, 0, 2, 7)", x.paritySample(true, 0, 2, 7), PlayoutBuffer.BAD_VALUE);
        // the last block has 996 to 1001: row 1 has 999 alone, column 1 has 997 alone
        Due.due("23: paritySample(true, 166, 1, 0)", x.paritySample(true, 166, 1, 0), 228);
        Due.due("23: paritySample(false, 166, 1, 2)", x.paritySample(false, 166, 1, 2), -51 + 128);
        Due.due("23: paritySample(false, 166, 0, 2)", x.paritySample(false, 166, 0, 2), 78 ^ 77);
        // a row with no frame of the stream
        x.setBlock(2, 6);
        Due.due("23: paritySample(true, 83, 1, 0)", x.paritySample(true, 83, 1, 0), 28 ^ 228);
        Due.due("23: paritySample(true, 83, 2, 0)", x.paritySample(true, 83, 2, 0), 0);
        Due.due("23: paritySample(true, 83, 5, 7)", x.paritySample(true, 83, 5, 7), 0);
        // what is known does not matter
        x.arrive(996);
        Due.due("23: paritySample(true, 83, 0, 0)", x.paritySample(true, 83, 0, 0), 28 ^ 228);
    }
}
