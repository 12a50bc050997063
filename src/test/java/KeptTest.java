/** The slots: what they keep, what they leave alone, and that all that is kept comes back. */
public final class KeptTest {
    public static void main(String[] args) {
        emptySlots();
        keepInPlaceOfWhatTheSlotKeeps();
        slotsAreApart();
        slotKeepsItAfterRestore();
        keepingChangesNothingElse();
        textIsNeitherKeptNorRestored();
        slotsAreNeitherKeptNorRestored();
        settingsAreKept();
        allStagesComeBack();
        gapGoesOn();
        pastThatIsGoneIsNotHeard();
        stretchedFrameGoesOn();
        windowGoesOn();
        rowsOfOutputsAndKindsGoOn();
        scheduleComesBack();
        packetsComeBack();
        timeGoesBackAndForth();
        Due.end();
    }

    private static PlayoutBuffer plain(int samples) {
        PlayoutBuffer x = new PlayoutBuffer();
        x.setFrame(samples);
        x.setInitialDelay(0);
        x.setAdapting(false);
        return x;
    }

    /** Changes everything that can be changed, but for the text and the slots. */
    private static void disturb(PlayoutBuffer x) {
        x.setFrame(11);
        x.setWave(19, 123);
        x.setBlock(5, 2);
        x.setInitialDelay(3);
        x.setQuantile(1);
        x.setMargin(0);
        x.setAdapting(true);
        int next = Math.max(0, x.next());
        for (int i = 0; i < 9; i++) {
            x.arrive(Math.min(999, next + i));
            x.arriveParity(i % 2 == 0, i / 2, i % 2);
        }
        x.advance(40);
        x.setQuantile(77);
        x.setMargin(100);
        x.advance(293);
        x.arrive(2);
        x.arrive(Math.min(999, next + 60));
        x.setAdapting(false);
        Due.pass(x, 1500);
    }

    /** "NOT_POSSIBLE if the slot keeps nothing", "empty slots". */
    private static void emptySlots() {
        PlayoutBuffer x = new PlayoutBuffer();
        Due.due("44: restore(0)", x.restore(0), PlayoutBuffer.NOT_POSSIBLE);
        Due.due("44: restore(1)", x.restore(1), PlayoutBuffer.NOT_POSSIBLE);
        Due.due("43: keep(1)", x.keep(1), 0);
        Due.due("44: restore(0), 1 keeps something", x.restore(0), PlayoutBuffer.NOT_POSSIBLE);
        Due.due("44: restore(1)", x.restore(1), 0);
        PlayoutBuffer y = new PlayoutBuffer();
        Due.due("43: keep(0)", y.keep(0), 0);
        Due.due("44: restore(1), 0 keeps something", y.restore(1), PlayoutBuffer.NOT_POSSIBLE);
        Due.due("44: restore(0)", y.restore(0), 0);
    }

    /** "in place of what the slot keeps" */
    private static void keepInPlaceOfWhatTheSlotKeeps() {
        for (int slot = 0; slot < 2; slot++) {
            PlayoutBuffer x = Stages.at("rich");
            long before = x.checksum();
            x.keep(slot);
            disturb(x);
            Due.due("43: keep(" + slot + "), again", x.keep(slot), x.time());
            long after = x.checksum();
            x.advance(50);
            x.restore(slot);
            Due.due("44: checksum(), the later one", x.checksum(), after);
            Due.due("44: the two differ", before == after ? 1 : 0, 0);
            // and an earlier one in place of a later one
            x = Stages.at("rich");
            x.keep(1 - slot);
            disturb(x);
            x.keep(slot);
            x.restore(1 - slot);
            x.keep(slot);
            disturb(x);
            x.restore(slot);
            Due.due("44: checksum(), the earlier one", x.checksum(), before);
        }
    }

    private static void slotsAreApart() {
        PlayoutBuffer x = plain(4);
        x.arrive(0);
        x.advance(3);
        x.keep(0);
        x.advance(4);
        x.keep(1);
        x.advance(5);
        for (int again = 0; again < 2; again++) {
            Due.due("44: restore(0)", x.restore(0), 3);
            Due.due("outputs()", x.outputs(), 3);
            Due.due("44: restore(1)", x.restore(1), 7);
            Due.due("outputs()", x.outputs(), 7);
        }
    }

    /** "The slot keeps it." */
    private static void slotKeepsItAfterRestore() {
        for (int slot = 0; slot < 2; slot++) {
            PlayoutBuffer x = Stages.at("rich");
            x.keep(slot);
            long kept = x.checksum();
            for (int again = 0; again < 3; again++) {
                disturb(x);
                Due.due("44: restore(" + slot + ")", x.restore(slot), x.time());
                Due.due("44: checksum()", x.checksum(), kept);
            }
        }
    }

    /** Keeping changes nothing but the slot, and restoring at once changes nothing at all. */
    private static void keepingChangesNothingElse() {
        for (String stage : Stages.NAMES) {
            PlayoutBuffer x = Stages.at(stage);
            PlayoutBuffer y = Stages.at(stage);
            Due.due("43: keep(0), " + stage, x.keep(0), y.keep(0));
            Due.due("43: keep(0) again, " + stage, x.keep(0), x.time());
            Due.due("44: restore(0), " + stage, x.restore(0), x.time());
            Answers.same("kept and restored, " + stage, x, y);
        }
    }

    /** "everything except the text" */
    private static void textIsNeitherKeptNorRestored() {
        PlayoutBuffer x = new PlayoutBuffer();
        Due.type(x, "d5@9");
        x.keep(0);
        x.append(';');
        x.restore(0);
        Due.due("40: faultPosition(), it is whole still", x.faultPosition(), PlayoutBuffer.NONE);
        Due.due("41: schedule()", x.schedule(), 1);
        x.clearText();
        x.keep(1);
        Due.type(x, "r0");
        x.restore(1);
        Due.due("39: clearText(), what came after", x.clearText(), 2);
        x.restore(0);
        Due.due("39: clearText(), what was cleared", x.clearText(), 0);
        Due.due("42: scheduled()", x.scheduled(), 0);
        // a full text stays full
        Due.type(x, "7".repeat(120));
        x.restore(1);
        Due.due("38: append(), full", x.append('7'), PlayoutBuffer.FULL);
        Due.due("42: scheduled()", x.scheduled(), 1);
    }

    /** "and the slots" */
    private static void slotsAreNeitherKeptNorRestored() {
        PlayoutBuffer x = new PlayoutBuffer();
        x.keep(0);
        x.advance(5);
        x.keep(1);
        x.restore(0);
        Due.due("44: restore(1), kept after what was restored", x.restore(1), 5);
        x.advance(1);
        x.keep(0);
        x.restore(1);
        Due.due("44: restore(0), kept after what was restored", x.restore(0), 6);
    }

    private static void settingsAreKept() {
        PlayoutBuffer x = new PlayoutBuffer();
        x.setFrame(5);
        x.setWave(9, 77);
        x.setBlock(3, 6);
        x.setInitialDelay(44);
        x.setQuantile(55);
        x.setMargin(66);
        x.setAdapting(false);
        x.keep(0);
        x.setFrame(6);
        x.setWave(10, 78);
        x.setBlock(4, 5);
        x.setInitialDelay(45);
        x.setQuantile(56);
        x.setMargin(67);
        x.setAdapting(true);
        x.arrive(0);
        Due.due("2: setFrame(7), something has arrived", x.setFrame(7), PlayoutBuffer.NOT_POSSIBLE);
        x.restore(0);
        // nothing has arrived then, so that all can be set again
        Due.due("2: setFrame(7)", x.setFrame(7), 5);
        Due.due("3: setWave(7, 7)", x.setWave(7, 7), 9077);
        Due.due("4: setBlock(2, 2)", x.setBlock(2, 2), 36);
        Due.due("5: setInitialDelay(7)", x.setInitialDelay(7), 44);
        Due.due("6: setQuantile(7)", x.setQuantile(7), 55);
        Due.due("7: setMargin(7)", x.setMargin(7), 66);
        Due.due("8: setAdapting(false)", x.setAdapting(false), 0);
        // and the settings that are kept hold what has arrived
        PlayoutBuffer y = new PlayoutBuffer();
        y.setBlock(2, 2);
        y.keep(0);
        y.setBlock(6, 6);
        y.keep(1);
        y.restore(0);
        Due.due("21: missing(true, 249, 1)", y.missing(true, 249, 1), 2);
        y.restore(1);
        Due.due("21: missing(true, 249, 1)", y.missing(true, 249, 1), PlayoutBuffer.BAD_VALUE);
        Due.due("21: missing(true, 27, 5)", y.missing(true, 27, 5), 0);
    }

    private static void allStagesComeBack() {
        for (String stage : Stages.NAMES) {
            for (int slot = 0; slot < 2; slot++) {
                PlayoutBuffer x = Stages.at(stage);
                PlayoutBuffer y = Stages.at(stage);
                x.keep(slot);
                y.keep(slot);
                disturb(x);
                Due.due("44: restore(" + slot + "), " + stage, x.restore(slot), y.time());
                Answers.same("restored from slot " + slot + ", " + stage, x, y);
            }
        }
    }

    /** Frames that were concealed in succession are counted on. */
    private static void gapGoesOn() {
        PlayoutBuffer x = plain(4);
        x.arrive(0);
        x.advance(4 + 3 * 4);
        int[] o = new int[16];
        for (int i = 0; i < 16; i++) {
            o[i] = x.output(i + 1);
        }
        x.keep(0);
        x.arrive(4);
        x.advance(4);
        Due.due("kind(1), the gap has ended", x.kind(1), PlayoutBuffer.PLAYED);
        x.restore(0);
        x.advance(4);
        Due.outputs("the fourth in succession", x, Formulas.concealed(o, 4, 4));
        Due.due("34: longestGap()", x.longestGap(), 4);
        // and a gap that has ended since is no gap of what was kept before it
        x = plain(4);
        x.arrive(0);
        x.advance(4);
        x.keep(0);
        x.advance(12);
        Due.due("34: longestGap()", x.longestGap(), 3);
        x.restore(0);
        Due.due("34: longestGap(), restored", x.longestGap(), 0);
        x.advance(4);
        Due.outputs("the first in succession", x, Formulas.concealed(new int[] {-25, -50, -75, -100}, 4, 1));
        Due.due("34: longestGap()", x.longestGap(), 1);
    }

    /** What was output after keeping has not been output then: nothing is concealed with it. */
    private static void pastThatIsGoneIsNotHeard() {
        PlayoutBuffer x = plain(4);
        x.keep(0);
        Due.arrive(x, 0, 9);
        x.advance(37);
        x.restore(0);
        x.arrive(9);
        Due.due("14: output(1)", x.output(1), PlayoutBuffer.NONE);
        Due.due("18: kind(1)", x.kind(1), PlayoutBuffer.NONE);
        x.advance(4);
        Due.outputs("concealed with nothing before it", x, 0, 0, 0, 0);
        // 4 samples are kept, and no more of them are heard
        PlayoutBuffer y = plain(4);
        y.setWave(8, 60);
        Due.arrive(y, 0, 0);
        y.advance(4);
        y.keep(0);
        y.arrive(1);
        y.advance(300);
        y.restore(0);
        y.advance(4);
        Due.outputs("concealed with 4 samples before it", y, Formulas.concealed(new int[] {80, 20, -40, -100}, 4, 1));
    }

    private static void stretchedFrameGoesOn() {
        for (int passed = 1; passed < 12; passed++) {
            PlayoutBuffer x = plain(8);
            x.setWave(4, 67);
            x.setAdapting(true);
            x.setMargin(100);
            x.arrive(0);
            x.advance(passed);
            x.keep(1);
            Due.due("left()", x.left(), 12 - passed);
            Due.pass(x, 60);
            x.restore(1);
            Due.due("left(), restored", x.left(), 12 - passed);
            x.advance(12 - passed);
            Due.outputs("stretched, kept after " + passed, x, Formulas.stretched(Formulas.samples(8, 4, 67, 0)));
            Due.due("next()", x.next(), 1);
        }
    }

    /** The window forgets its oldest transit, whichever came in between. */
    private static void windowGoesOn() {
        for (int first = 1; first <= 33; first++) {
            PlayoutBuffer x = plain(4);
            PlayoutBuffer y = plain(4);
            for (int k = 0; k < first; k++) {
                x.arrive(k * 7 % 40);
                y.arrive(k * 7 % 40);
            }
            x.keep(0);
            for (int k = 0; k < 5; k++) {
                x.arrive(900 + k);
            }
            x.restore(0);
            for (int k = 50; k < 60; k++) {
                x.arrive(k);
                y.arrive(k);
                Due.due("24: transits()", x.transits(), y.transits());
                for (int i : new int[] {0, 7, 8, 15}) {
                    Due.due("25: transit(" + i + ") after " + first, x.transit(i), y.transit(i));
                }
            }
        }
    }

    private static void rowsOfOutputsAndKindsGoOn() {
        for (int passed : new int[] {255, 256, 257, 300}) {
            PlayoutBuffer x = plain(4);
            x.setWave(32, 13);
            Due.arrive(x, 0, 99);
            Due.pass(x, passed);
            x.keep(0);
            Due.pass(x, 77);
            x.restore(0);
            x.advance(3);
            for (int back : new int[] {1, 3, 4, 5, 100, 253, 254, 255, 256}) {
                int i = passed + 3 - back;
                Due.due("14: output(" + back + ") of " + passed, x.output(back),
                        i < 0 ? PlayoutBuffer.NONE : Formulas.wave(32, 13, i));
            }
            for (int back = 1; back <= 32; back++) {
                Due.due("18: kind(" + back + ")", x.kind(back), PlayoutBuffer.PLAYED);
            }
        }
    }

    private static void scheduleComesBack() {
        PlayoutBuffer x = plain(4);
        Due.schedule(x, "d0@5;d1@5;d2@6;r0.0@7;");
        x.keep(0);
        x.advance(6);
        Due.due("42: scheduled()", x.scheduled(), 2);
        x.keep(1);
        x.advance(6);
        Due.due("42: scheduled()", x.scheduled(), 0);
        x.restore(1);
        Due.due("42: scheduled(), half of it", x.scheduled(), 2);
        Due.due("state(1)", x.state(1), 2);
        Due.due("state(2)", x.state(2), 0);
        x.restore(0);
        Due.due("42: scheduled(), all of it", x.scheduled(), 4);
        Due.due("start(), nothing has arrived", x.start(), PlayoutBuffer.NONE);
        x.advance(8);
        Due.due("42: scheduled()", x.scheduled(), 0);
        Due.due("state(3), restored", x.state(3), 1);
        Due.due("start()", x.start(), 5);
        Due.due("duplicates()", x.duplicates(), 0);
        // a full schedule, and then an empty one
        PlayoutBuffer y = plain(4);
        y.keep(0);
        Due.schedule(y, "d1@9;".repeat(24));
        y.keep(1);
        y.restore(0);
        Due.due("42: scheduled(), empty", y.scheduled(), 0);
        Due.due("2: setFrame(6), nothing is scheduled", y.setFrame(6), 4);
        y.restore(1);
        Due.due("42: scheduled(), full", y.scheduled(), 24);
        Due.due("41: schedule()", y.schedule(), PlayoutBuffer.FULL);
    }

    /** Packets that arrived after keeping have not arrived then. */
    private static void packetsComeBack() {
        PlayoutBuffer x = plain(4);
        x.arriveParity(true, 1, 1);
        x.keep(0);
        x.arriveParity(true, 1, 2);
        x.arriveParity(false, 1, 1);
        x.arriveParity(true, 62, 1);
        x.restore(0);
        Due.due("10: arriveParity(true, 1, 2)", x.arriveParity(true, 1, 2), 0);
        Due.due("10: arriveParity(false, 1, 1)", x.arriveParity(false, 1, 1), 0);
        Due.due("10: arriveParity(true, 62, 1)", x.arriveParity(true, 62, 1), 0);
        Due.due("32: duplicates()", x.duplicates(), 0);
        x.arriveParity(true, 1, 1);
        Due.due("32: duplicates(), kept", x.duplicates(), 1);
    }

    /** "Returns the time then": of what was kept, be it before or after the present time. */
    private static void timeGoesBackAndForth() {
        PlayoutBuffer x = new PlayoutBuffer();
        x.keep(0);
        Due.pass(x, 9999);
        x.keep(1);
        Due.due("44: restore(0)", x.restore(0), 0);
        Due.due("12: time()", x.time(), 0);
        Due.due("41: schedule(), its time is to come again", Due.schedule(x, "d5@1;"), 1);
        Due.due("44: restore(1)", x.restore(1), 9999);
        Due.due("12: time()", x.time(), 9999);
        Due.due("42: scheduled()", x.scheduled(), 0);
    }
}
