/** Promises 1 to 8: a new object, and the settings. */
public final class SettingsTest {
    public static void main(String[] args) {
        newObject();
        newObjectsAreSeparate();
        setFrame();
        setWave();
        setBlock();
        setInitialDelay();
        setQuantile();
        setMargin();
        setAdapting();
        Due.end();
    }

    private static void newObject() {
        PlayoutBuffer x = new PlayoutBuffer();
        Due.due("1: time()", x.time(), 0);
        Due.due("1: start()", x.start(), PlayoutBuffer.NONE);
        Due.due("1: outputs()", x.outputs(), 0);
        Due.due("1: output(1)", x.output(1), PlayoutBuffer.NONE);
        Due.due("1: left()", x.left(), 0);
        Due.due("1: next()", x.next(), 0);
        Due.due("1: kind(1)", x.kind(1), PlayoutBuffer.NONE);
        Due.due("1: transits()", x.transits(), 0);
        Due.due("1: transit(0)", x.transit(0), PlayoutBuffer.BAD_VALUE);
        Due.due("1: target()", x.target(), 8);
        Due.due("1: level()", x.level(), 0);
        for (int kind = 1; kind <= 3; kind++) {
            Due.due("1: taken()", x.taken(kind), 0);
        }
        Due.due("1: stretched()", x.stretched(), 0);
        Due.due("1: compressed()", x.compressed(), 0);
        Due.due("1: late()", x.late(), 0);
        Due.due("1: duplicates()", x.duplicates(), 0);
        Due.due("1: longestGap()", x.longestGap(), 0);
        Due.due("1: scheduled()", x.scheduled(), 0);
        Due.due("1: faultPosition()", x.faultPosition(), PlayoutBuffer.NONE);
        Due.due("1: clearText()", x.clearText(), 0);
        Due.due("1: restore(0)", x.restore(0), PlayoutBuffer.NOT_POSSIBLE);
        Due.due("1: restore(1)", x.restore(1), PlayoutBuffer.NOT_POSSIBLE);
        PlayoutBuffer[] more = {new PlayoutBuffer(), new PlayoutBuffer()};
        for (int frame = 0; frame <= 999; frame++) {
            Due.due("1: state()", more[frame % 2].state(frame), 0);
        }
        Due.due("1: setFrame", x.setFrame(8), 8);
        Due.due("1: setWave", x.setWave(16, 25), 16025);
        Due.due("1: setBlock", x.setBlock(4, 4), 44);
        Due.due("1: setInitialDelay", x.setInitialDelay(16), 16);
        Due.due("1: setQuantile", x.setQuantile(90), 90);
        Due.due("1: setMargin", x.setMargin(8), 8);
        Due.due("1: setAdapting", x.setAdapting(true), 1);
    }

    private static void newObjectsAreSeparate() {
        PlayoutBuffer x = new PlayoutBuffer();
        PlayoutBuffer y = new PlayoutBuffer();
        x.setFrame(4);
        x.arrive(0);
        x.advance(20);
        x.keep(0);
        x.append('d');
        Due.due("1: time() of another", y.time(), 0);
        Due.due("1: state(0) of another", y.state(0), 0);
        Due.due("1: restore(0) of another", y.restore(0), PlayoutBuffer.NOT_POSSIBLE);
        Due.due("1: clearText() of another", y.clearText(), 0);
        Due.due("1: setFrame of another", y.setFrame(5), 8);
    }

    /** Three objects to which something has arrived, or is scheduled. */
    private static PlayoutBuffer[] begun() {
        PlayoutBuffer[] all = {new PlayoutBuffer(), new PlayoutBuffer(), new PlayoutBuffer()};
        all[0].arrive(7);
        all[1].arriveParity(false, 0, 0);
        Due.schedule(all[2], "d1@9999;");
        return all;
    }

    private static void setFrame() {
        PlayoutBuffer x = new PlayoutBuffer();
        Due.due("2: setFrame(3)", x.setFrame(3), PlayoutBuffer.BAD_VALUE);
        Due.due("2: setFrame(17)", x.setFrame(17), PlayoutBuffer.BAD_VALUE);
        Due.due("2: setFrame(MIN)", x.setFrame(Integer.MIN_VALUE), PlayoutBuffer.BAD_VALUE);
        Due.due("2: setFrame(4)", x.setFrame(4), 8);
        Due.due("2: sample(0, 4)", x.sample(0, 4), PlayoutBuffer.BAD_VALUE);
        Due.due("2: setFrame(16)", x.setFrame(16), 4);
        Due.due("2: sample(0, 15)", x.sample(0, 15), 74);
        x.advance(10);
        Due.due("2: setFrame(5), time has passed", x.setFrame(5), 16);
        for (PlayoutBuffer y : begun()) {
            Due.due("2: setFrame(9) later", y.setFrame(9), PlayoutBuffer.NOT_POSSIBLE);
            Due.due("2: setFrame(3) later", y.setFrame(3), PlayoutBuffer.BAD_VALUE);
            Due.due("2: sample(0, 8) later", y.sample(0, 8), PlayoutBuffer.BAD_VALUE);
        }
        PlayoutBuffer z = new PlayoutBuffer();
        z.setInitialDelay(0);
        z.setFrame(11);
        z.arrive(0);
        z.arrive(1);
        z.advance(11);
        Due.due("2: next() after a frame of 11", z.next(), 1);
        z.advance(1);
        Due.due("2: next() then", z.next(), 2);
    }

    private static void setWave() {
        PlayoutBuffer x = new PlayoutBuffer();
        int[][] bad = {{1, 1}, {33, 1}, {2, 0}, {2, 201}, {-5, 7}, {16, -25}};
        for (int[] b : bad) {
            Due.due("3: setWave, out of range", x.setWave(b[0], b[1]), PlayoutBuffer.BAD_VALUE);
        }
        Due.due("3: setWave(2, 1)", x.setWave(2, 1), 16025);
        Due.due("3: sample(0, 3)", x.sample(0, 3), -99);
        Due.due("3: setWave(32, 200)", x.setWave(32, 200), 2001);
        // 200 * 31 = 6200 = 30 * 201 + 170
        Due.due("3: sample(3, 7)", x.sample(3, 7), 70);
        Due.due("3: sample(4, 0)", x.sample(4, 0), -100);
        Due.due("3: setWave(7, 30)", x.setWave(7, 30), 32200);
        for (PlayoutBuffer y : begun()) {
            Due.due("3: setWave(9, 9) later", y.setWave(9, 9), PlayoutBuffer.NOT_POSSIBLE);
            Due.due("3: setWave(9, 0) later", y.setWave(9, 0), PlayoutBuffer.BAD_VALUE);
            Due.due("3: sample(1, 1) later", y.sample(1, 1), -76);
        }
    }

    private static void setBlock() {
        PlayoutBuffer x = new PlayoutBuffer();
        int[][] bad = {{1, 2}, {7, 2}, {2, 1}, {2, 7}, {0, 0}, {-4, -4}};
        for (int[] b : bad) {
            Due.due("4: setBlock, out of range", x.setBlock(b[0], b[1]), PlayoutBuffer.BAD_VALUE);
        }
        Due.due("4: setBlock(2, 6)", x.setBlock(2, 6), 44);
        Due.due("4: missing(row 5)", x.missing(true, 0, 5), 2);
        Due.due("4: missing(column 1)", x.missing(false, 0, 1), 6);
        Due.due("4: missing(column 2)", x.missing(false, 0, 2), PlayoutBuffer.BAD_VALUE);
        Due.due("4: setBlock(6, 3)", x.setBlock(6, 3), 26);
        Due.due("4: missing(row 2)", x.missing(true, 0, 2), 6);
        Due.due("4: missing(row 3)", x.missing(true, 0, 3), PlayoutBuffer.BAD_VALUE);
        Due.due("4: missing(column 5)", x.missing(false, 0, 5), 3);
        Due.due("4: setBlock(2, 2)", x.setBlock(2, 2), 63);
        for (PlayoutBuffer y : begun()) {
            Due.due("4: setBlock(3, 3) later", y.setBlock(3, 3), PlayoutBuffer.NOT_POSSIBLE);
            Due.due("4: setBlock(3, 7) later", y.setBlock(3, 7), PlayoutBuffer.BAD_VALUE);
            Due.due("4: missing(true, 1, 3) later", y.missing(true, 1, 3), 4);
        }
    }

    private static void setInitialDelay() {
        PlayoutBuffer x = new PlayoutBuffer();
        Due.due("5: setInitialDelay(-1)", x.setInitialDelay(-1), PlayoutBuffer.BAD_VALUE);
        Due.due("5: setInitialDelay(201)", x.setInitialDelay(201), PlayoutBuffer.BAD_VALUE);
        Due.due("5: setInitialDelay(200)", x.setInitialDelay(200), 16);
        Due.due("5: setInitialDelay(0)", x.setInitialDelay(0), 200);
        Due.due("5: setInitialDelay(40)", x.setInitialDelay(40), 0);
        x.advance(5);
        x.arrive(3);
        Due.due("5: start()", x.start(), 45);
        for (PlayoutBuffer y : begun()) {
            Due.due("5: setInitialDelay(9) later", y.setInitialDelay(9), PlayoutBuffer.NOT_POSSIBLE);
            Due.due("5: setInitialDelay(201) later", y.setInitialDelay(201), PlayoutBuffer.BAD_VALUE);
        }
    }

    private static void setQuantile() {
        PlayoutBuffer x = new PlayoutBuffer();
        Due.due("6: setQuantile(0)", x.setQuantile(0), PlayoutBuffer.BAD_VALUE);
        Due.due("6: setQuantile(101)", x.setQuantile(101), PlayoutBuffer.BAD_VALUE);
        Due.due("6: setQuantile(1)", x.setQuantile(1), 90);
        x.arrive(3);
        x.arrive(2);
        x.arrive(1);
        x.arrive(0);
        Due.due("6: target() at 1", x.target(), 8);
        Due.due("6: setQuantile(100)", x.setQuantile(100), 1);
        Due.due("6: target() at 100", x.target(), 32);
        Due.due("6: setQuantile(25)", x.setQuantile(25), 100);
        Due.due("6: target() at 25", x.target(), 8);
        Due.due("6: setQuantile(26)", x.setQuantile(26), 25);
        Due.due("6: target() at 26", x.target(), 16);
        Due.due("6: setQuantile(75)", x.setQuantile(75), 26);
        Due.due("6: target() at 75", x.target(), 24);
        Due.due("6: setQuantile(-3)", x.setQuantile(-3), PlayoutBuffer.BAD_VALUE);
        Due.due("6: setQuantile(75)", x.setQuantile(75), 75);
    }

    private static void setMargin() {
        PlayoutBuffer x = new PlayoutBuffer();
        Due.due("7: setMargin(-1)", x.setMargin(-1), PlayoutBuffer.BAD_VALUE);
        Due.due("7: setMargin(101)", x.setMargin(101), PlayoutBuffer.BAD_VALUE);
        Due.due("7: target()", x.target(), 8);
        Due.due("7: setMargin(0)", x.setMargin(0), 8);
        Due.due("7: target()", x.target(), 0);
        x.arrive(0);
        Due.due("7: setMargin(100)", x.setMargin(100), 0);
        Due.due("7: target()", x.target(), 100);
        Due.due("7: setMargin(100)", x.setMargin(100), 100);
    }

    private static void setAdapting() {
        PlayoutBuffer x = new PlayoutBuffer();
        x.setInitialDelay(0);
        x.setMargin(100);
        Due.due("8: setAdapting(false)", x.setAdapting(false), 1);
        Due.due("8: setAdapting(false)", x.setAdapting(false), 0);
        Due.arrive(x, 0, 3);
        x.advance(8);
        Due.due("8: stretched(), off", x.stretched(), 0);
        Due.due("8: setAdapting(true)", x.setAdapting(true), 0);
        x.advance(1);
        Due.due("8: stretched(), on", x.stretched(), 1);
        // frame 1 has the lag 3 (276 / 3 is less than 201 / 2 and 401 / 4), so it has 11 samples;
        // it stays as it was taken
        Due.due("8: left()", x.left(), 10);
        Due.due("8: setAdapting(false)", x.setAdapting(false), 1);
        Due.due("8: left()", x.left(), 10);
        x.advance(10);
        Due.due("8: stretched(), off again", x.stretched(), 1);
    }
}
