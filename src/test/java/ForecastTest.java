/** The predictions: against what happens then, at their limits, and where there is nothing to predict. */
public final class ForecastTest {
    private static final int NONE = PlayoutBuffer.NONE;
    private static final int NOT_POSSIBLE = PlayoutBuffer.NOT_POSSIBLE;

    public static void main(String[] args) {
        nothingHasArrivedOrIsScheduled();
        allIsOver();
        ticksToGapFromZeroToTheLimit();
        gapsInAllNumbersOfTicks();
        gapsInAtItsLimits();
        ticksToFrameFromZeroToTheLimit();
        frameThatIsTakenNowOrNext();
        whatIsScheduledArrives();
        scheduledStartOfTheStream();
        whatComesTrue();
        Due.end();
    }

    private static PlayoutBuffer plain(int samples, int delay) {
        PlayoutBuffer x = new PlayoutBuffer();
        x.setFrame(samples);
        x.setInitialDelay(delay);
        x.setAdapting(false);
        return x;
    }

    private static void nothingHasArrivedOrIsScheduled() {
        PlayoutBuffer x = new PlayoutBuffer();
        for (int time = 0; time < 2; time++) {
            Due.due("35: ticksToGap()", x.ticksToGap(), NONE);
            Due.due("36: gapsIn(1)", x.gapsIn(1), 0);
            Due.due("36: gapsIn(1000)", x.gapsIn(1000), 0);
            Due.due("37: ticksToFrame(0)", x.ticksToFrame(0), NONE);
            Due.due("37: ticksToFrame(999)", x.ticksToFrame(999), NONE);
            x.advance(500);
        }
    }

    private static void allIsOver() {
        PlayoutBuffer x = plain(4, 0);
        x.arrive(0);
        Due.pass(x, 3999);
        Due.due("35: ticksToGap(), one sample is left", x.ticksToGap(), NONE);
        Due.due("36: gapsIn(1000), one sample is left", x.gapsIn(1000), 0);
        x.advance(1);
        Due.due("35: ticksToGap()", x.ticksToGap(), NONE);
        Due.due("36: gapsIn(1000)", x.gapsIn(1000), 0);
        Due.due("37: ticksToFrame(999)", x.ticksToFrame(999), NOT_POSSIBLE);
        Due.due("37: ticksToFrame(1000)", x.ticksToFrame(1000), PlayoutBuffer.BAD_VALUE);
    }

    /** "Returns the number, 0 to 999; NONE if it is not so in the next 1000 ticks." */
    private static void ticksToGapFromZeroToTheLimit() {
        PlayoutBuffer x = plain(5, 0);
        Due.arrive(x, 0, 201);
        // frame 202 is concealed in the tick of 1010
        int[] times = {0, 10, 11, 12, 500, 1009, 1010};
        for (int i = 0; i < times.length; i++) {
            int to = 1010 - times[i];
            Due.due("35: ticksToGap() at " + times[i], x.ticksToGap(), to <= 999 ? to : NONE);
            if (i + 1 < times.length) {
                Due.pass(x, times[i + 1] - times[i]);
            }
        }
        x.advance(1);
        Due.due("35: ticksToGap(), the one that begins is no more to come", x.ticksToGap(), 4);
        x.arrive(203);
        Due.due("35: ticksToGap(), 203 has arrived", x.ticksToGap(), 9);
        x.advance(4);
        Due.due("35: ticksToGap(), at the end of a gap", x.ticksToGap(), 5);
        x.arrive(202);
        Due.due("35: ticksToGap(), a late frame", x.ticksToGap(), 5);
    }

    private static void gapsInAllNumbersOfTicks() {
        PlayoutBuffer x = plain(4, 6);
        x.arrive(1);
        Due.arrive(x, 4, 5);
        // frame k is taken in the tick of 6 + 4 * k
        for (int ticks = 1; ticks <= 60; ticks++) {
            int gaps = 0;
            for (int k = 0; 6 + 4 * k < ticks; k++) {
                gaps += k == 1 || k == 4 || k == 5 ? 0 : 1;
            }
            Due.due("36: gapsIn(" + ticks + ")", x.gapsIn(ticks), gaps);
        }
    }

    /** "`ticks`: 1 to 1000". */
    private static void gapsInAtItsLimits() {
        PlayoutBuffer x = plain(5, 0);
        Due.arrive(x, 0, 199);
        Due.due("36: gapsIn(1000), one in the tick after", x.gapsIn(1000), 0);
        x.advance(1);
        Due.due("36: gapsIn(999), one in the tick after", x.gapsIn(999), 0);
        Due.due("36: gapsIn(1000), one in the last tick", x.gapsIn(1000), 1);
        PlayoutBuffer y = plain(4, 0);
        y.arrive(999);
        Due.due("36: gapsIn(1), in the first tick", y.gapsIn(1), 1);
        Due.due("36: gapsIn(4)", y.gapsIn(4), 1);
        Due.due("36: gapsIn(5)", y.gapsIn(5), 2);
        Due.due("36: gapsIn(1000), nothing else", y.gapsIn(1000), 250);
        y.advance(3);
        Due.due("36: gapsIn(1), in the midst of a gap", y.gapsIn(1), 0);
        Due.due("36: gapsIn(2), in the midst of a gap", y.gapsIn(2), 1);
        Due.pass(y, 3984);
        // frame 997 begins in the tick of 3988, and 999 is there
        Due.due("36: gapsIn(1000), to the end", y.gapsIn(1000), 2);
    }

    /** "Returns the number of ticks .., 0 to 1999; .. NONE if it is not so in the next 2000 ticks." */
    private static void ticksToFrameFromZeroToTheLimit() {
        PlayoutBuffer x = plain(4, 200);
        x.arrive(999);
        for (int k : new int[] {0, 1, 2, 448, 449, 450, 451, 999}) {
            int to = 200 + 4 * k;
            Due.due("37: ticksToFrame(" + k + ")", x.ticksToFrame(k), to <= 1999 ? to : NONE);
        }
        x.advance(1);
        Due.due("37: ticksToFrame(450), after 1", x.ticksToFrame(450), 1999);
        Due.due("37: ticksToFrame(451), after 1", x.ticksToFrame(451), NONE);
        x.advance(3);
        Due.due("37: ticksToFrame(450), after 4", x.ticksToFrame(450), 1996);
        Due.due("37: ticksToFrame(451), after 4", x.ticksToFrame(451), NONE);
        x.advance(1);
        Due.due("37: ticksToFrame(451), after 5", x.ticksToFrame(451), 1999);
        // frame 999 begins in the tick of 200 + 4 * 999
        Due.pass(x, 4196 - 2000 - 5);
        Due.due("37: ticksToFrame(999), too far", x.ticksToFrame(999), NONE);
        x.advance(1);
        Due.due("37: ticksToFrame(999), near enough", x.ticksToFrame(999), 1999);
    }

    /** "NOT_POSSIBLE if it has been taken": from the tick on in which its first sample is output. */
    private static void frameThatIsTakenNowOrNext() {
        PlayoutBuffer x = plain(4, 1);
        Due.arrive(x, 0, 1);
        Due.due("37: ticksToFrame(0)", x.ticksToFrame(0), 1);
        x.advance(1);
        Due.due("37: ticksToFrame(0), in the next tick", x.ticksToFrame(0), 0);
        x.advance(1);
        Due.due("37: ticksToFrame(0), taken", x.ticksToFrame(0), NOT_POSSIBLE);
        Due.due("37: ticksToFrame(1)", x.ticksToFrame(1), 3);
        x.advance(3);
        Due.due("37: ticksToFrame(0), output", x.ticksToFrame(0), NOT_POSSIBLE);
        Due.due("37: ticksToFrame(1), in the next tick", x.ticksToFrame(1), 0);
        x.advance(5);
        // a concealed frame has been taken, too
        Due.due("37: ticksToFrame(2), concealed", x.ticksToFrame(2), NOT_POSSIBLE);
        Due.due("37: ticksToFrame(3)", x.ticksToFrame(3), 3);
    }

    /** "if nothing arrives except what is scheduled": what comes in the tick of its frame comes in time. */
    private static void whatIsScheduledArrives() {
        for (int at = 7; at <= 9; at++) {
            PlayoutBuffer x = plain(4, 0);
            Due.arrive(x, 0, 1);
            x.arrive(3);
            Due.schedule(x, "d2@" + at + ";");
            Due.due("35: ticksToGap(), 2 comes at " + at, x.ticksToGap(), at <= 8 ? 16 : 8);
            Due.due("36: gapsIn(16), 2 comes at " + at, x.gapsIn(16), at <= 8 ? 0 : 1);
            Due.due("35: ticksToGap(), asked again", x.ticksToGap(), at <= 8 ? 16 : 8);
            Due.due("state(2), nothing is changed", x.state(2), 0);
            Due.due("scheduled(), nothing is changed", x.scheduled(), 1);
        }
        // frames that restore others, and a target that changes the frames' lengths
        PlayoutBuffer y = plain(4, 0);
        Due.arrive(y, 0, 2);
        Due.schedule(y, "r0.0@12;");
        Due.due("35: ticksToGap(), 3 is restored", y.ticksToGap(), 16);
        PlayoutBuffer z = plain(4, 0);
        z.setAdapting(true);
        z.setMargin(0);
        z.setQuantile(100);
        z.arrive(0);
        Due.schedule(z, "d1@3;d90@4;");
        Due.due("37: ticksToFrame(1)", z.ticksToFrame(1), 4);
        Due.due("37: ticksToFrame(2), 1 is stretched", z.ticksToFrame(2), 10);
        Due.due("35: ticksToGap(), 1 is stretched", z.ticksToGap(), 10);
        // an arrival in the past of the prediction's limit, but not of its own
        PlayoutBuffer w = plain(4, 0);
        Due.arrive(w, 0, 249);
        w.advance(1);
        Due.schedule(w, "d250@1000;");
        Due.due("35: ticksToGap(), 250 comes in the last tick", w.ticksToGap(), NONE);
        Due.due("36: gapsIn(1000), 250 comes in the last tick", w.gapsIn(1000), 0);
    }

    private static void scheduledStartOfTheStream() {
        PlayoutBuffer x = plain(4, 30);
        Due.schedule(x, "d1@70;d0@100;");
        Due.due("35: ticksToGap()", x.ticksToGap(), 108);
        Due.due("36: gapsIn(108)", x.gapsIn(108), 0);
        Due.due("36: gapsIn(109)", x.gapsIn(109), 1);
        Due.due("37: ticksToFrame(0)", x.ticksToFrame(0), 100);
        Due.due("37: ticksToFrame(1)", x.ticksToFrame(1), 104);
        Due.due("start(), nothing is changed", x.start(), NONE);
        PlayoutBuffer y = plain(4, 0);
        Due.schedule(y, "d9@999;");
        Due.due("35: ticksToGap(), in the last tick", y.ticksToGap(), 999);
        Due.due("36: gapsIn(1000), in the last tick", y.gapsIn(1000), 1);
        Due.schedule(y, "");
        PlayoutBuffer z = plain(4, 0);
        Due.schedule(z, "d9@1000;");
        Due.due("35: ticksToGap(), in the tick after", z.ticksToGap(), NONE);
        Due.due("36: gapsIn(1000), in the tick after", z.gapsIn(1000), 0);
        Due.due("37: ticksToFrame(0)", z.ticksToFrame(0), 1000);
        PlayoutBuffer w = plain(4, 0);
        Due.schedule(w, "d9@1999;");
        Due.due("37: ticksToFrame(0), in the last tick", w.ticksToFrame(0), 1999);
        Due.due("37: ticksToFrame(1)", w.ticksToFrame(1), NONE);
        PlayoutBuffer v = plain(4, 0);
        Due.schedule(v, "d9@2000;");
        Due.due("37: ticksToFrame(0), in the tick after", v.ticksToFrame(0), NONE);
    }

    /** Each prediction, at each stage, against what happens tick by tick. */
    private static void whatComesTrue() {
        for (String stage : new String[] {"scheduled", "begun", "rich"}) {
            PlayoutBuffer x = Stages.at(stage);
            int gap = x.ticksToGap();
            int gaps = x.gapsIn(120);
            int frame = Math.max(0, x.next()) + 4;
            int taken = x.ticksToFrame(frame);
            int before = x.taken(PlayoutBuffer.CONCEALED);
            int firstGap = -1;
            int firstTaken = -1;
            for (int tick = 0; tick < 120; tick++) {
                x.advance(1);
                firstGap = firstGap < 0 && x.taken(PlayoutBuffer.CONCEALED) > before ? tick : firstGap;
                firstTaken = firstTaken < 0 && x.next() > frame ? tick : firstTaken;
            }
            Due.due("35: ticksToGap(), " + stage, gap, firstGap);
            Due.due("36: gapsIn(120), " + stage, gaps, x.taken(PlayoutBuffer.CONCEALED) - before);
            Due.due("37: ticksToFrame(" + frame + "), " + stage, taken, firstTaken);
            Due.due("there is a gap, " + stage, firstGap >= 0 ? 1 : 0, 1);
        }
    }
}
