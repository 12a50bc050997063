/** Promises 35 to 37: the predictions. */
public final class PredictionsTest {
    public static void main(String[] args) {
        ticksToGap();
        ticksToGapAtItsLimit();
        gapsIn();
        ticksToFrame();
        ticksToFrameAtItsLimit();
        nothingIsChanged();
        predictionsComeTrue();
        Due.end();
    }

    private static PlayoutBuffer plain(int delay) {
        PlayoutBuffer x = new PlayoutBuffer();
        x.setFrame(4);
        x.setInitialDelay(delay);
        x.setAdapting(false);
        return x;
    }

    private static void ticksToGap() {
        PlayoutBuffer x = plain(10);
        Due.due("35: ticksToGap(), nothing has arrived", x.ticksToGap(), PlayoutBuffer.NONE);
        x.arrive(1);
        Due.due("35: ticksToGap()", x.ticksToGap(), 10);
        x.arrive(0);
        Due.due("35: ticksToGap()", x.ticksToGap(), 18);
        x.advance(12);
        Due.due("35: ticksToGap()", x.ticksToGap(), 6);
        x.advance(6);
        Due.due("35: ticksToGap()", x.ticksToGap(), 0);
        x.advance(1);
        Due.due("35: ticksToGap(), in a gap", x.ticksToGap(), 3);
        Due.schedule(x, "d3@21;d4@26;d5@200;");
        Due.due("35: ticksToGap(), 3 and 4 are scheduled", x.ticksToGap(), 3 + 8);
        // a schedule alone starts the stream
        PlayoutBuffer y = plain(10);
        Due.schedule(y, "d0@40;c0.1@45;");
        Due.due("35: ticksToGap(), scheduled alone", y.ticksToGap(), 54);
        y.ticksToFrame(0);
        y.advance(1);
        Due.due("35: ticksToGap(), asked again", y.ticksToGap(), 53);
        // stretched frames are reckoned with
        PlayoutBuffer z = plain(0);
        z.setAdapting(true);
        z.setMargin(100);
        Due.arrive(z, 0, 2);
        Due.due("35: ticksToGap(), three frames of 6", z.ticksToGap(), 18);
    }

    private static void ticksToGapAtItsLimit() {
        // 4 * 250 ticks have samples; then a frame is concealed
        PlayoutBuffer x = plain(0);
        Due.arrive(x, 0, 249);
        Due.due("35: ticksToGap(), 1000 ticks", x.ticksToGap(), PlayoutBuffer.NONE);
        x.advance(1);
        Due.due("35: ticksToGap(), 999 ticks", x.ticksToGap(), 999);
        // no gap after the end
        PlayoutBuffer y = plain(0);
        y.arrive(999);
        Due.pass(y, 3996);
        Due.due("35: ticksToGap(), 999 has arrived", y.ticksToGap(), PlayoutBuffer.NONE);
        y.advance(100);
        Due.due("35: ticksToGap(), at the end", y.ticksToGap(), PlayoutBuffer.NONE);
    }

    private static void gapsIn() {
        PlayoutBuffer x = plain(10);
        for (int ticks : new int[] {0, -1, 1001, Integer.MAX_VALUE, Integer.MIN_VALUE}) {
            Due.due("36: gapsIn(" + ticks + ")", x.gapsIn(ticks), PlayoutBuffer.BAD_VALUE);
        }
        Due.due("36: gapsIn(1000), nothing has arrived", x.gapsIn(1000), 0);
        x.arrive(1);
        Due.due("36: gapsIn(1)", x.gapsIn(1), 0);
        Due.due("36: gapsIn(10)", x.gapsIn(10), 0);
        Due.due("36: gapsIn(11)", x.gapsIn(11), 1);
        Due.due("36: gapsIn(18)", x.gapsIn(18), 1);
        Due.due("36: gapsIn(19)", x.gapsIn(19), 2);
        Due.due("36: gapsIn(1000)", x.gapsIn(1000), 247);
        x.advance(11);
        Due.due("36: gapsIn(7)", x.gapsIn(7), 0);
        Due.due("36: gapsIn(8)", x.gapsIn(8), 1);
        Due.schedule(x, "d2@18;d3@23;");
        // 3 comes one tick too late
        Due.due("36: gapsIn(11)", x.gapsIn(11), 0);
        Due.due("36: gapsIn(12)", x.gapsIn(12), 1);
        PlayoutBuffer y = plain(0);
        y.arrive(0);
        Due.pass(y, 3990);
        Due.due("36: gapsIn(1000), near the end", y.gapsIn(1000), 2);
        Due.due("36: gapsIn(2)", y.gapsIn(2), 0);
        y.advance(2);
        Due.due("36: gapsIn(1)", y.gapsIn(1), 1);
    }

    private static void ticksToFrame() {
        PlayoutBuffer x = plain(10);
        for (int frame : new int[] {-1, 1000, Integer.MAX_VALUE, Integer.MIN_VALUE}) {
            Due.due("37: ticksToFrame(" + frame + ")", x.ticksToFrame(frame), PlayoutBuffer.BAD_VALUE);
        }
        Due.due("37: ticksToFrame(0), nothing has arrived", x.ticksToFrame(0), PlayoutBuffer.NONE);
        x.arrive(7);
        Due.due("37: ticksToFrame(0)", x.ticksToFrame(0), 10);
        Due.due("37: ticksToFrame(7)", x.ticksToFrame(7), 38);
        x.advance(10);
        Due.due("37: ticksToFrame(0)", x.ticksToFrame(0), 0);
        x.advance(1);
        Due.due("37: ticksToFrame(0), taken", x.ticksToFrame(0), PlayoutBuffer.NOT_POSSIBLE);
        Due.due("37: ticksToFrame(1)", x.ticksToFrame(1), 3);
        Due.due("37: ticksToFrame(-1), taken", x.ticksToFrame(-1), PlayoutBuffer.BAD_VALUE);
        PlayoutBuffer y = plain(10);
        Due.schedule(y, "r0.0@5;");
        Due.due("37: ticksToFrame(2), scheduled", y.ticksToFrame(2), 23);
        // compressed frames are reckoned with
        PlayoutBuffer z = plain(0);
        z.setAdapting(true);
        z.setMargin(0);
        z.setQuantile(1);
        Due.arrive(z, 0, 4);
        Due.due("37: ticksToFrame(3), three of 2 samples", z.ticksToFrame(3), 6);
        Due.due("37: ticksToFrame(6)", z.ticksToFrame(6), 18);
    }

    private static void ticksToFrameAtItsLimit() {
        PlayoutBuffer x = plain(0);
        x.arrive(0);
        Due.due("37: ticksToFrame(499)", x.ticksToFrame(499), 1996);
        Due.due("37: ticksToFrame(500)", x.ticksToFrame(500), PlayoutBuffer.NONE);
        x.advance(1);
        Due.due("37: ticksToFrame(500), 1999 ticks", x.ticksToFrame(500), 1999);
        Due.due("37: ticksToFrame(501)", x.ticksToFrame(501), PlayoutBuffer.NONE);
        Due.pass(x, 3990);
        Due.due("37: ticksToFrame(999)", x.ticksToFrame(999), 5);
        x.advance(6);
        Due.due("37: ticksToFrame(999), taken", x.ticksToFrame(999), PlayoutBuffer.NOT_POSSIBLE);
    }

    private static void nothingIsChanged() {
        PlayoutBuffer x = plain(3);
        Due.arrive(x, 1, 6);
        Due.schedule(x, "d0@2;d9@30;r3.1@7;");
        x.advance(1);
        long before = x.checksum();
        x.ticksToGap();
        Due.due("35: checksum() after", x.checksum(), before);
        x.gapsIn(1000);
        Due.due("36: checksum() after", x.checksum(), before);
        x.ticksToFrame(400);
        Due.due("37: checksum() after", x.checksum(), before);
        Due.due("37: scheduled() after", x.scheduled(), 3);
        Due.due("37: state(0) after", x.state(0), 0);
        x.keep(1);
        x.advance(100);
        x.gapsIn(20);
        Due.due("36: the slot after", x.restore(1), 1);
        Due.due("36: checksum() of the slot", x.checksum(), before);
        Due.due("36: clearText() after", x.clearText(), 18);
    }

    private static void predictionsComeTrue() {
        PlayoutBuffer x = new PlayoutBuffer();
        x.setMargin(30);
        x.setFrame(4);
        Due.arrive(x, 0, 9);
        Due.arrive(x, 13, 20);
        Due.arrive(x, 24, 26);
        Due.schedule(x, "d11@50;r1.2@20;r0.2@60;");
        int gap = x.ticksToGap();
        int gaps = x.gapsIn(200);
        int frame = x.ticksToFrame(27);
        int first = -1;
        int taken = -1;
        for (int tick = 0; tick < 200; tick++) {
            x.advance(1);
            if (first < 0 && x.taken(3) > 0) {
                first = tick;
            } else if (first >= 0 && taken < 0 && x.next() > 27) {
                taken = tick;
            }
        }
        Due.due("35: ticksToGap()", gap, first);
        Due.due("36: gapsIn(200)", gaps, x.taken(3));
        Due.due("37: frame 27 was taken", taken > first ? 1 : 0, 1);
        Due.due("37: ticksToFrame(27)", frame, taken);
    }
}
