/** The first and the last sample, frame and arrival, and what is asked for before there is one. */
public final class FirstAndLastTest {
    private static final int NONE = PlayoutBuffer.NONE;

    public static void main(String[] args) {
        settingsAtFirst();
        beforeAnythingArrives();
        beforePlayingBegins();
        firstSampleOfAPlayedFrame();
        firstSampleOfAConcealedFrame();
        endOfTheFirstFrame();
        eachNumberOfOutputs();
        eachNumberOfFrames();
        firstAndLastFrameArrive();
        firstAndLastFrameAreRestored();
        levelOfTheLastFrames();
        lastFrameIsTaken();
        lastFrameIsConcealed();
        Due.end();
    }

    private static PlayoutBuffer plain() {
        PlayoutBuffer x = new PlayoutBuffer();
        x.setFrame(4);
        x.setInitialDelay(0);
        x.setAdapting(false);
        return x;
    }

    /** "with all settings as at first": "The quantile q, from 1 to 100, is at first 90.", and the others. */
    private static void settingsAtFirst() {
        Due.due("2: setFrame(4)", new PlayoutBuffer().setFrame(4), 8);
        Due.due("3: setWave(2, 1)", new PlayoutBuffer().setWave(2, 1), 16025);
        Due.due("4: setBlock(2, 2)", new PlayoutBuffer().setBlock(2, 2), 44);
        Due.due("5: setInitialDelay(0)", new PlayoutBuffer().setInitialDelay(0), 16);
        Due.due("6: setQuantile(1)", new PlayoutBuffer().setQuantile(1), 90);
        Due.due("7: setMargin(0)", new PlayoutBuffer().setMargin(0), 8);
        Due.due("8: setAdapting(false)", new PlayoutBuffer().setAdapting(false), 1);
        Due.due("8: setAdapting(true)", new PlayoutBuffer().setAdapting(true), 1);
        // the settings hold without having been set
        PlayoutBuffer x = new PlayoutBuffer();
        Due.due("20: sample(0, 7)", x.sample(0, 7), 75);
        Due.due("20: sample(0, 8)", x.sample(0, 8), PlayoutBuffer.BAD_VALUE);
        Due.due("21: missing(true, 0, 3)", x.missing(true, 0, 3), 4);
        Due.due("21: missing(false, 0, 4)", x.missing(false, 0, 4), PlayoutBuffer.BAD_VALUE);
    }

    private static void beforeAnythingArrives() {
        PlayoutBuffer x = new PlayoutBuffer();
        for (int time = 0; time <= 500; time += 500) {
            Due.due("12: time()", x.time(), time);
            Due.due("13: start()", x.start(), NONE);
            Due.due("14: output(1)", x.output(1), NONE);
            Due.due("14: output(256)", x.output(256), NONE);
            Due.due("15: outputs()", x.outputs(), 0);
            Due.due("16: left()", x.left(), 0);
            Due.due("17: next()", x.next(), 0);
            Due.due("18: kind(1)", x.kind(1), NONE);
            Due.due("18: kind(32)", x.kind(32), NONE);
            Due.due("19: state(0)", x.state(0), 0);
            Due.due("24: transits()", x.transits(), 0);
            Due.due("25: transit(0)", x.transit(0), PlayoutBuffer.BAD_VALUE);
            Due.due("26: target()", x.target(), 8);
            Due.due("27: level()", x.level(), 0);
            Due.due("28: taken(1)", x.taken(1), 0);
            Due.due("28: taken(2)", x.taken(2), 0);
            Due.due("28: taken(3)", x.taken(3), 0);
            Due.due("33: loss(false)", x.loss(false), 0);
            Due.due("33: loss(true)", x.loss(true), 1);
            Due.due("34: longestGap()", x.longestGap(), 0);
            Due.due("42: scheduled()", x.scheduled(), 0);
            Due.due("11: advance(500)", x.advance(500), 0);
        }
    }

    private static void beforePlayingBegins() {
        PlayoutBuffer x = new PlayoutBuffer();
        x.arrive(0);
        for (int tick = 0; tick < 16; tick++) {
            Due.due("13: start()", x.start(), 16);
            Due.due("14: output(1)", x.output(1), NONE);
            Due.due("15: outputs()", x.outputs(), 0);
            Due.due("16: left()", x.left(), 0);
            Due.due("17: next()", x.next(), 0);
            Due.due("18: kind(1)", x.kind(1), NONE);
            Due.due("27: level()", x.level(), 8);
            Due.due("11: advance(1)", x.advance(1), 0);
        }
        Due.due("11: advance(1), playing begins", x.advance(1), 1);
    }

    private static void firstSampleOfAPlayedFrame() {
        PlayoutBuffer x = plain();
        x.arrive(0);
        x.advance(1);
        Due.due("14: output(1)", x.output(1), -100);
        Due.due("14: output(2)", x.output(2), NONE);
        Due.due("15: outputs()", x.outputs(), 1);
        Due.due("16: left()", x.left(), 3);
        Due.due("17: next()", x.next(), 1);
        Due.due("18: kind(1)", x.kind(1), PlayoutBuffer.PLAYED);
        Due.due("18: kind(2)", x.kind(2), NONE);
        Due.due("27: level()", x.level(), 0);
        Due.due("28: taken(PLAYED)", x.taken(PlayoutBuffer.PLAYED), 1);
        Due.due("34: longestGap()", x.longestGap(), 0);
    }

    private static void firstSampleOfAConcealedFrame() {
        PlayoutBuffer x = plain();
        x.arrive(1);
        x.advance(1);
        Due.due("14: output(1)", x.output(1), 0);
        Due.due("14: output(2)", x.output(2), NONE);
        Due.due("16: left()", x.left(), 3);
        Due.due("17: next()", x.next(), 1);
        Due.due("18: kind(1)", x.kind(1), PlayoutBuffer.CONCEALED);
        Due.due("27: level()", x.level(), 4);
        Due.due("33: loss(false)", x.loss(false), 1);
        Due.due("33: loss(true)", x.loss(true), 1);
        Due.due("34: longestGap()", x.longestGap(), 1);
    }

    private static void endOfTheFirstFrame() {
        PlayoutBuffer x = plain();
        Due.arrive(x, 0, 1);
        x.advance(4);
        Due.due("16: left(), all is output", x.left(), 0);
        Due.due("17: next()", x.next(), 1);
        Due.due("18: kind(2)", x.kind(2), NONE);
        Due.due("14: output(1)", x.output(1), -25);
        x.advance(1);
        Due.due("16: left()", x.left(), 3);
        Due.due("17: next()", x.next(), 2);
        Due.due("18: kind(2)", x.kind(2), PlayoutBuffer.PLAYED);
        Due.due("14: output(1)", x.output(1), 0);
        Due.due("14: output(5)", x.output(5), -100);
        Due.due("14: output(6)", x.output(6), NONE);
    }

    /** "NONE if so many have not been output" */
    private static void eachNumberOfOutputs() {
        PlayoutBuffer x = plain();
        x.setWave(32, 3);
        Due.arrive(x, 0, 11);
        for (int m = 0; m <= 40; m++) {
            Due.due("14: output(" + (m + 1) + ") of " + m, x.output(m + 1), NONE);
            if (m > 0) {
                Due.due("14: output(" + m + ") of " + m, x.output(m), -100);
                Due.due("14: output(1) of " + m, x.output(1), Formulas.wave(32, 3, m - 1));
            }
            Due.due("15: outputs()", x.outputs(), m);
            x.advance(1);
        }
    }

    /** "NONE if so many have not been taken" */
    private static void eachNumberOfFrames() {
        PlayoutBuffer x = plain();
        x.arrive(0);
        for (int m = 0; m <= 31; m++) {
            Due.due("18: kind(" + (m + 1) + ") of " + m, x.kind(m + 1), NONE);
            if (m > 0) {
                Due.due("18: kind(" + m + ") of " + m, x.kind(m), PlayoutBuffer.PLAYED);
                Due.due("18: kind(1) of " + m, x.kind(1), m == 1 ? PlayoutBuffer.PLAYED : PlayoutBuffer.CONCEALED);
            }
            x.advance(4);
        }
    }

    /** "0 to 999": the states of the first and the last frame, and of their neighbours. */
    private static void firstAndLastFrameArrive() {
        PlayoutBuffer x = plain();
        Due.due("9: arrive(999)", x.arrive(999), 1);
        Due.due("9: arrive(0)", x.arrive(0), 1);
        Due.due("19: state(0)", x.state(0), 2);
        Due.due("19: state(1)", x.state(1), 0);
        Due.due("19: state(998)", x.state(998), 0);
        Due.due("19: state(999)", x.state(999), 2);
        Due.due("25: transit(0)", x.transit(0), -999);
        Due.due("25: transit(1)", x.transit(1), 0);
        Due.due("9: arrive(0) again", x.arrive(0), 0);
        Due.due("9: arrive(999) again", x.arrive(999), 0);
        Due.due("32: duplicates()", x.duplicates(), 2);
    }

    private static void firstAndLastFrameAreRestored() {
        PlayoutBuffer x = plain();
        x.setBlock(5, 5);
        Due.arrive(x, 1, 4);
        Due.arrive(x, 995, 998);
        Due.due("10: arriveParity(true, 0, 0)", x.arriveParity(true, 0, 0), 1);
        Due.due("10: arriveParity(true, 39, 4)", x.arriveParity(true, 39, 4), 1);
        Due.due("19: state(0)", x.state(0), 1);
        Due.due("19: state(999)", x.state(999), 1);
        Due.due("10: arriveParity(true, 40, 0)", x.arriveParity(true, 40, 0), PlayoutBuffer.BAD_VALUE);
    }

    /** "up to the first one that is not known, or up to frame 999; 0 if frame 999 has been taken." */
    private static void levelOfTheLastFrames() {
        for (int side = 2; side <= 6; side++) {
            PlayoutBuffer x = plain();
            x.setBlock(side, 6);
            Due.arrive(x, 996, 999);
            Due.pass(x, 995 * 4);
            for (int k = 995; k <= 999; k++) {
                Due.due("27: level(), " + k + " is the next", x.level(), k == 995 ? 0 : 4 * (1000 - k));
                x.advance(4);
            }
            Due.due("27: level(), 999 has been taken", x.level(), 0);
            x.arrive(995);
            Due.due("27: level(), a late frame", x.level(), 0);
        }
    }

    /** "NONE if frame 999 has been taken." */
    private static void lastFrameIsTaken() {
        PlayoutBuffer x = plain();
        x.arrive(999);
        Due.pass(x, 999 * 4 - 1);
        Due.due("17: next(), 998 is output", x.next(), 999);
        x.advance(1);
        Due.due("17: next(), 999 is to be taken", x.next(), 999);
        Due.due("37: ticksToFrame(999)", x.ticksToFrame(999), 0);
        x.advance(1);
        Due.due("17: next(), 999 has been taken", x.next(), NONE);
        Due.due("16: left()", x.left(), 3);
        Due.due("18: kind(1)", x.kind(1), PlayoutBuffer.PLAYED);
        x.advance(3);
        Due.due("15: outputs()", x.outputs(), 4000);
        Due.due("11: advance(1), all is over", x.advance(1), 0);
        Due.due("18: kind(2)", x.kind(2), PlayoutBuffer.CONCEALED);
    }

    private static void lastFrameIsConcealed() {
        PlayoutBuffer x = plain();
        x.arrive(998);
        Due.pass(x, 999 * 4);
        Due.due("35: ticksToGap()", x.ticksToGap(), 0);
        Due.due("36: gapsIn(1000)", x.gapsIn(1000), 1);
        x.advance(1);
        Due.due("18: kind(1)", x.kind(1), PlayoutBuffer.CONCEALED);
        Due.due("35: ticksToGap(), no frame is left", x.ticksToGap(), NONE);
        x.arrive(999);
        Due.due("31: late()", x.late(), 1);
        x.advance(500);
        Due.due("28: taken(CONCEALED)", x.taken(PlayoutBuffer.CONCEALED), 999);
        Due.due("28: taken(PLAYED)", x.taken(PlayoutBuffer.PLAYED), 1);
        Due.due("34: longestGap()", x.longestGap(), 998);
    }
}
