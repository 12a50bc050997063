/**
 * "Each method names its errors in the order in which they are checked, and returns the first one that applies", and
 * "NONE is no error; .. it is returned only if no error applies".
 */
public final class ErrorOrderTest {
    private static final int BAD = PlayoutBuffer.BAD_VALUE;
    private static final int NOT_POSSIBLE = PlayoutBuffer.NOT_POSSIBLE;
    private static final int FULL = PlayoutBuffer.FULL;

    public static void main(String[] args) {
        settings();
        append();
        scheduleWithAFault();
        scheduleWithoutRoom();
        restore();
        ticksToFrame();
        noneIsAnsweredLast();
        Due.end();
    }

    /** "Returns the previous number; BAD_VALUE; NOT_POSSIBLE if something has arrived, or is scheduled." */
    private static void settings() {
        for (String stage : new String[] {"scheduled", "begun", "rich", "ended"}) {
            PlayoutBuffer x = Stages.at(stage);
            for (int n : new int[] {3, 17, 0, -1}) {
                Due.due("2: setFrame(" + n + "), " + stage, x.setFrame(n), BAD);
            }
            Due.due("2: setFrame(4), " + stage, x.setFrame(4), NOT_POSSIBLE);
            Due.due("2: setFrame(16), " + stage, x.setFrame(16), NOT_POSSIBLE);
            for (int p : new int[] {1, 33}) {
                Due.due("3: setWave(" + p + ", 9), " + stage, x.setWave(p, 9), BAD);
            }
            for (int s : new int[] {0, 201}) {
                Due.due("3: setWave(9, " + s + "), " + stage, x.setWave(9, s), BAD);
            }
            Due.due("3: setWave(2, 1), " + stage, x.setWave(2, 1), NOT_POSSIBLE);
            Due.due("3: setWave(32, 200), " + stage, x.setWave(32, 200), NOT_POSSIBLE);
            for (int side : new int[] {1, 7}) {
                Due.due("4: setBlock(" + side + ", 3), " + stage, x.setBlock(side, 3), BAD);
                Due.due("4: setBlock(3, " + side + "), " + stage, x.setBlock(3, side), BAD);
            }
            Due.due("4: setBlock(2, 2), " + stage, x.setBlock(2, 2), NOT_POSSIBLE);
            Due.due("4: setBlock(6, 6), " + stage, x.setBlock(6, 6), NOT_POSSIBLE);
            for (int t : new int[] {-1, 201}) {
                Due.due("5: setInitialDelay(" + t + "), " + stage, x.setInitialDelay(t), BAD);
            }
            Due.due("5: setInitialDelay(0), " + stage, x.setInitialDelay(0), NOT_POSSIBLE);
            Due.due("5: setInitialDelay(200), " + stage, x.setInitialDelay(200), NOT_POSSIBLE);
        }
    }

    /** "Returns the length of the text; BAD_VALUE; FULL if it has 120 characters." */
    private static void append() {
        PlayoutBuffer x = new PlayoutBuffer();
        Due.type(x, "~".repeat(119));
        Due.due("38: append(31), 119 characters", x.append(31), BAD);
        Due.due("38: append(126), 119 characters", x.append(126), 120);
        for (int code : new int[] {31, 127, -1, Integer.MAX_VALUE}) {
            Due.due("38: append(" + code + "), full", x.append(code), BAD);
        }
        for (int code : new int[] {32, 126, ';'}) {
            Due.due("38: append(" + code + "), full", x.append(code), FULL);
        }
    }

    private static PlayoutBuffer full() {
        PlayoutBuffer x = new PlayoutBuffer();
        Due.due("41: schedule() of 24", Due.schedule(x, "d1@9;".repeat(24)), 24);
        return x;
    }

    /** "NOT_POSSIBLE if the text has a fault; BAD_VALUE ..": the fault comes first wherever it is. */
    private static void scheduleWithAFault() {
        String[] texts = {"d1000@5;x", "xd1000@5;", "d1000@5;d1", "d1@0;d1@5", "r63.0@5;d1@5;;", "d1@5;d1000@5;c0.4@5;c"};
        for (String text : texts) {
            Due.due("41: schedule() of " + text, Due.schedule(new PlayoutBuffer(), text), NOT_POSSIBLE);
            Due.due("41: schedule() of " + text + ", full", Due.schedule(full(), text), NOT_POSSIBLE);
        }
        Due.due("41: schedule() of a fault alone, full", Due.schedule(full(), "d1@5"), NOT_POSSIBLE);
    }

    /** "BAD_VALUE if one of them names ..; FULL if the schedule would have more than 24 arrivals." */
    private static void scheduleWithoutRoom() {
        String[] texts = {"d1000@5;", "d1@0;", "r63.0@5;", "c63.0@5;", "r0.4@5;", "c0.4@5;", "d1@5;d2@5;d1000@5;",
            "d1000@5;d1@5;"};
        for (String text : texts) {
            Due.due("41: schedule() of " + text + ", full", Due.schedule(full(), text), BAD);
        }
        Due.due("41: schedule() of a good text, full", Due.schedule(full(), "d1@5;"), FULL);
        PlayoutBuffer x = full();
        x.advance(5);
        Due.due("41: schedule() at its time, full", Due.schedule(x, "d1@5;"), BAD);
        Due.due("41: schedule() after the present time, full", Due.schedule(x, "d1@6;"), FULL);
    }

    /** "Returns the time then; BAD_VALUE; NOT_POSSIBLE if the slot keeps nothing." */
    private static void restore() {
        PlayoutBuffer x = new PlayoutBuffer();
        Due.due("44: restore(-1), nothing is kept", x.restore(-1), BAD);
        Due.due("44: restore(2), nothing is kept", x.restore(2), BAD);
        Due.due("44: restore(0), nothing is kept", x.restore(0), NOT_POSSIBLE);
        x.keep(0);
        Due.due("44: restore(1), slot 0 keeps something", x.restore(1), NOT_POSSIBLE);
        Due.due("44: restore(2), slot 0 keeps something", x.restore(2), BAD);
    }

    /** "BAD_VALUE; NOT_POSSIBLE if it has been taken; NONE if it is not so in the next 2000 ticks." */
    private static void ticksToFrame() {
        PlayoutBuffer x = new PlayoutBuffer();
        Due.due("37: ticksToFrame(-1), nothing has arrived", x.ticksToFrame(-1), BAD);
        Due.due("37: ticksToFrame(1000), nothing has arrived", x.ticksToFrame(1000), BAD);
        Due.due("37: ticksToFrame(0), nothing has arrived", x.ticksToFrame(0), PlayoutBuffer.NONE);
        PlayoutBuffer y = Stages.at("ended");
        Due.due("37: ticksToFrame(-1), all is over", y.ticksToFrame(-1), BAD);
        Due.due("37: ticksToFrame(1000), all is over", y.ticksToFrame(1000), BAD);
        Due.due("37: ticksToFrame(0), all is over", y.ticksToFrame(0), NOT_POSSIBLE);
        Due.due("37: ticksToFrame(999), all is over", y.ticksToFrame(999), NOT_POSSIBLE);
    }

    /** Where there is nothing yet, an argument out of its range is an error all the same. */
    private static void noneIsAnsweredLast() {
        PlayoutBuffer x = new PlayoutBuffer();
        for (int back : new int[] {0, -1, 257, Integer.MAX_VALUE, Integer.MIN_VALUE}) {
            Due.due("14: output(" + back + "), nothing was output", x.output(back), BAD);
        }
        Due.due("14: output(1), nothing was output", x.output(1), PlayoutBuffer.NONE);
        Due.due("14: output(256), nothing was output", x.output(256), PlayoutBuffer.NONE);
        for (int back : new int[] {0, -1, 33, Integer.MAX_VALUE, Integer.MIN_VALUE}) {
            Due.due("18: kind(" + back + "), nothing was taken", x.kind(back), BAD);
        }
        Due.due("18: kind(1), nothing was taken", x.kind(1), PlayoutBuffer.NONE);
        Due.due("18: kind(32), nothing was taken", x.kind(32), PlayoutBuffer.NONE);
        // there is no transit, and no NONE for it
        Due.due("25: transit(0), there is none", x.transit(0), BAD);
    }
}
