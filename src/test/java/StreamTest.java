/** Time: the start of the stream, the ticks, the order of what happens in a tick, and the end. */
public final class StreamTest {
    private static final int NONE = PlayoutBuffer.NONE;

    public static void main(String[] args) {
        timeIsZeroAtFirst();
        startAfterEachInitialDelay();
        startByAPacket();
        startByTheSchedule();
        startIsThatOfTheFirstPacket();
        nothingIsOutputBeforeTheStart();
        playingBeginsWithFrameZero();
        oneSampleInEachTick();
        nextFrameIsTakenInItsTick();
        arrivalsByCallsComeBeforeTheTick();
        scheduledArrivalsComeBeforeTheSample();
        callsComeBeforeScheduledArrivals();
        scheduledInTheirOrder();
        nothingIsOutputAfterTheLastFrame();
        arrivalsAfterTheEnd();
        leastAndGreatestAdvance();
        outputsGoRound();
        kindsGoRound();
        lastCallsOfALongLife();
        Due.end();
    }

    private static PlayoutBuffer plain(int samples, int delay) {
        PlayoutBuffer x = new PlayoutBuffer();
        x.setFrame(samples);
        x.setInitialDelay(delay);
        x.setAdapting(false);
        return x;
    }

    /** "The time is a number of ticks, 0 at first." */
    private static void timeIsZeroAtFirst() {
        PlayoutBuffer x = new PlayoutBuffer();
        Due.due("time()", x.time(), 0);
        x.arrive(0);
        Due.due("time(), no tick has passed", x.time(), 0);
        x.advance(1);
        Due.due("time()", x.time(), 1);
    }

    /** "the initial delay, which is from 0 to 200, at first 16" */
    private static void startAfterEachInitialDelay() {
        for (int delay = 0; delay <= 200; delay++) {
            for (int at : new int[] {0, 1, 499}) {
                PlayoutBuffer x = new PlayoutBuffer();
                x.setInitialDelay(delay);
                if (at > 0) {
                    x.advance(at);
                }
                x.arrive(0);
                Due.due("start(), delay " + delay + " at " + at, x.start(), at + delay);
                if (delay > 0) {
                    Due.due("advance(" + delay + ")", x.advance(delay), 0);
                }
                Due.due("next(), delay " + delay, x.next(), 0);
                Due.due("advance(1), delay " + delay, x.advance(1), 1);
                Due.due("next(), delay " + delay, x.next(), 1);
            }
        }
        PlayoutBuffer y = new PlayoutBuffer();
        y.arrive(0);
        Due.due("start(), delay at first", y.start(), 16);
        Due.due("advance(17), delay at first", y.advance(17), 1);
    }

    /** "The stream starts when the first packet arrives": a parity packet is one. */
    private static void startByAPacket() {
        PlayoutBuffer x = plain(4, 0);
        x.advance(3);
        x.arriveParity(false, 62, 3);
        Due.due("start()", x.start(), 3);
        Due.due("advance(1)", x.advance(1), 1);
        Due.due("kind(1)", x.kind(1), PlayoutBuffer.CONCEALED);
        Due.due("output(1)", x.output(1), 0);
    }

    private static void startByTheSchedule() {
        for (String entry : new String[] {"d0@5;", "d999@5;", "r0.0@5;", "c62.3@5;"}) {
            PlayoutBuffer x = plain(4, 3);
            Due.schedule(x, entry);
            Due.due("start(), scheduled " + entry, x.start(), NONE);
            x.advance(5);
            Due.due("start(), before the tick of " + entry, x.start(), NONE);
            Due.due("advance(1), the tick of " + entry, x.advance(1), 0);
            Due.due("start(), after the tick of " + entry, x.start(), 8);
            Due.due("advance(2)", x.advance(2), 0);
            Due.due("advance(1), playing begins", x.advance(1), 1);
            // without a delay it begins in the very tick
            PlayoutBuffer y = plain(4, 0);
            Due.schedule(y, entry);
            Due.due("advance(5), no delay", y.advance(5), 0);
            Due.due("advance(1), no delay", y.advance(1), 1);
            Due.due("start(), no delay", y.start(), 5);
        }
    }

    /** Arrivals after the first one do not move the start, neither before nor after it. */
    private static void startIsThatOfTheFirstPacket() {
        PlayoutBuffer x = plain(4, 10);
        x.advance(2);
        x.arrive(7);
        x.advance(9);
        x.arrive(0);
        x.arrive(7);
        x.arriveParity(true, 0, 0);
        Due.due("start(), before it", x.start(), 12);
        x.advance(50);
        x.arrive(40);
        x.arriveParity(true, 0, 1);
        Due.due("start(), after it", x.start(), 12);
        Due.due("outputs()", x.outputs(), 49);
        // errors are no arrivals
        PlayoutBuffer y = new PlayoutBuffer();
        y.arrive(1000);
        y.arriveParity(true, 63, 0);
        Due.due("start(), after errors", y.start(), NONE);
        Due.due("setInitialDelay(5), after errors", y.setInitialDelay(5), 16);
    }

    private static void nothingIsOutputBeforeTheStart() {
        PlayoutBuffer x = plain(4, 0);
        Due.due("advance(500), nothing has arrived", x.advance(500), 0);
        Due.due("outputs()", x.outputs(), 0);
        Due.due("output(1)", x.output(1), NONE);
        Due.due("kind(1)", x.kind(1), NONE);
        Due.due("left()", x.left(), 0);
        Due.due("next()", x.next(), 0);
        Due.due("taken(CONCEALED)", x.taken(PlayoutBuffer.CONCEALED), 0);
        Due.due("longestGap()", x.longestGap(), 0);
    }

    /** "the next frame is taken, beginning with frame 0": also if another one arrived first. */
    private static void playingBeginsWithFrameZero() {
        PlayoutBuffer x = plain(4, 0);
        x.arrive(5);
        x.advance(1);
        Due.due("next()", x.next(), 1);
        Due.due("kind(1)", x.kind(1), PlayoutBuffer.CONCEALED);
        x.advance(20);
        Due.due("next()", x.next(), 6);
        Due.due("kind(1)", x.kind(1), PlayoutBuffer.PLAYED);
    }

    /** "From then on, in each tick one sample is output": whether frames are there or not. */
    private static void oneSampleInEachTick() {
        for (int n = 4; n <= 16; n++) {
            PlayoutBuffer x = plain(n, 2);
            x.setAdapting(true);
            Due.arrive(x, 0, 6);
            x.arrive(9);
            x.advance(2);
            for (int tick = 1; tick <= 40; tick++) {
                Due.due("advance(1), frames of " + n, x.advance(1), 1);
                Due.due("outputs(), frames of " + n, x.outputs(), tick);
                Due.due("left(), frames of " + n, x.left() >= 0 && x.left() <= 3 * n / 2 - 1 ? 1 : 0, 1);
            }
            Due.due("advance(500), frames of " + n, x.advance(500), 500);
        }
    }

    /** "Whenever there are no samples left to be output in a tick, the next frame is taken": in the tick, not before. */
    private static void nextFrameIsTakenInItsTick() {
        for (int n = 4; n <= 16; n++) {
            PlayoutBuffer x = plain(n, 0);
            Due.arrive(x, 0, 1);
            for (int tick = 0; tick < 3 * n; tick++) {
                Due.due("next(), tick " + tick + " of frames of " + n, x.next(), (tick + n - 1) / n);
                Due.due("left(), tick " + tick + " of frames of " + n, x.left(), (3 * n - tick) % n);
                x.advance(1);
            }
            Due.due("next(), frame 3 is not taken yet", x.next(), 3);
            x.arrive(3);
            Due.due("late(), frame 3 just in time", x.late(), 0);
            x.advance(1);
            Due.due("kind(1), frame 3", x.kind(1), PlayoutBuffer.PLAYED);
            Due.due("kind(2), frame 2", x.kind(2), PlayoutBuffer.CONCEALED);
        }
    }

    /** "What arrives by a call does so at the present time, before the tick that begins then." */
    private static void arrivalsByCallsComeBeforeTheTick() {
        PlayoutBuffer x = plain(4, 0);
        x.arrive(0);
        Due.due("transit(0)", x.transit(0), 0);
        x.advance(4);
        x.arrive(1);
        Due.due("transit(1), at 4", x.transit(1), 0);
        x.advance(1);
        Due.due("kind(1), arrived at the time of its tick", x.kind(1), PlayoutBuffer.PLAYED);
        x.advance(3);
        // one tick too late
        x.advance(1);
        x.arrive(2);
        Due.due("kind(1), arrived after its tick", x.kind(1), PlayoutBuffer.CONCEALED);
        Due.due("late()", x.late(), 1);
        // a restored frame, just in time
        x.advance(3);
        x.arriveParity(true, 0, 0);
        Due.due("state(3)", x.state(3), 1);
        x.advance(1);
        Due.due("kind(1), restored at the time of its tick", x.kind(1), PlayoutBuffer.RESTORED);
    }

    /** "An arrival of the schedule arrives in the tick that begins at its time, before a sample is output". */
    private static void scheduledArrivalsComeBeforeTheSample() {
        for (int at = 3; at <= 5; at++) {
            PlayoutBuffer x = plain(4, 0);
            x.arrive(0);
            Due.schedule(x, "d1@" + at + ";");
            x.advance(at);
            Due.due("state(1), before the tick " + at, x.state(1), 0);
            Due.due("scheduled(), before the tick " + at, x.scheduled(), 1);
            x.advance(1);
            Due.due("state(1), after the tick " + at, x.state(1), 2);
            Due.due("scheduled(), after the tick " + at, x.scheduled(), 0);
            Due.due("transit(1)", x.transit(1), Math.max(0, at - 4));
            Due.due("transit(0)", x.transit(0), Math.min(0, at - 4));
            x.advance(5);
            // frame 1 is taken in the tick that begins at 4
            Due.due("taken(PLAYED), arrived at " + at, x.taken(PlayoutBuffer.PLAYED), at <= 4 ? 2 : 1);
            Due.due("late(), arrived at " + at, x.late(), at <= 4 ? 0 : 1);
        }
    }

    private static void callsComeBeforeScheduledArrivals() {
        PlayoutBuffer x = plain(4, 100);
        Due.arrive(x, 0, 2);
        Due.schedule(x, "d3@5;r1.0@5;");
        x.advance(5);
        Due.due("arriveParity(true, 0, 0), at 5", x.arriveParity(true, 0, 0), 1);
        Due.due("arriveParity(true, 1, 0), at 5", x.arriveParity(true, 1, 0), 0);
        x.advance(1);
        Due.due("state(3), restored by the call", x.state(3), 1);
        Due.due("duplicates(), the scheduled ones", x.duplicates(), 2);
        Due.due("transits()", x.transits(), 3);
    }

    /** "of several at the same time, first the one that was scheduled first": in one text or in two. */
    private static void scheduledInTheirOrder() {
        String[][] texts = {{"d3@5;r0.0@5;", ""}, {"d3@5;", "r0.0@5;"}, {"d9@4;d3@5;d10@4;", "d11@4;r0.0@5;"},
            {"r0.0@5;d3@5;", ""}, {"r0.0@5;", "d3@5;"}, {"d9@4;r0.0@5;d10@4;", "d11@4;d3@5;"}};
        for (int i = 0; i < texts.length; i++) {
            boolean frameFirst = i < 3;
            PlayoutBuffer x = plain(4, 100);
            Due.arrive(x, 0, 2);
            Due.schedule(x, texts[i][0]);
            Due.schedule(x, texts[i][1]);
            x.advance(6);
            Due.due("state(3) of " + texts[i][0] + texts[i][1], x.state(3), frameFirst ? 2 : 1);
            Due.due("duplicates() of " + texts[i][0] + texts[i][1], x.duplicates(), frameFirst ? 0 : 1);
        }
        // what is scheduled later, for an earlier time, comes earlier
        PlayoutBuffer y = plain(4, 100);
        Due.arrive(y, 0, 2);
        Due.schedule(y, "d3@6;");
        Due.schedule(y, "r0.0@5;");
        y.advance(7);
        Due.due("state(3)", y.state(3), 1);
        // the window shows the order, too: 17 frames, of which the first is forgotten
        PlayoutBuffer z = plain(4, 100);
        Due.schedule(z, "d100@5;d0@5;d1@5;d2@5;d3@5;d4@5;d5@5;d6@5;d7@5;");
        Due.schedule(z, "d8@5;d9@5;d10@5;d11@5;d12@5;d13@5;d14@5;d15@5;");
        z.advance(6);
        Due.due("transit(0), 100 was the first", z.transit(0), 5 - 15 * 4);
    }

    /** "After frame 999 nothing is output any more." */
    private static void nothingIsOutputAfterTheLastFrame() {
        PlayoutBuffer x = plain(4, 0);
        Due.arrive(x, 998, 999);
        Due.pass(x, 998 * 4);
        x.keep(0);
        Due.due("next()", x.next(), 998);
        Due.due("advance(7)", x.advance(7), 7);
        Due.due("next(), 999 has been taken", x.next(), NONE);
        Due.due("left()", x.left(), 1);
        Due.due("output(1)", x.output(1), x.sample(999, 2));
        Due.due("advance(1)", x.advance(1), 1);
        Due.due("left()", x.left(), 0);
        Due.due("output(1)", x.output(1), x.sample(999, 3));
        Due.due("advance(1), all is over", x.advance(1), 0);
        Due.due("time() goes on", x.time(), 4001);
        Due.due("outputs()", x.outputs(), 4000);
        Due.due("output(1), it stays", x.output(1), x.sample(999, 3));
        Due.due("kind(1), it stays", x.kind(1), PlayoutBuffer.PLAYED);
        Due.due("taken(CONCEALED)", x.taken(PlayoutBuffer.CONCEALED), 998);
        // in one call across the end
        x.restore(0);
        Due.due("advance(500), across the end", x.advance(500), 8);
        Due.due("time()", x.time(), 998 * 4 + 500);
    }

    private static void arrivalsAfterTheEnd() {
        PlayoutBuffer x = plain(4, 0);
        x.arrive(999);
        Due.schedule(x, "d5@4100;d999@4100;r62.3@4101;");
        Due.pass(x, 4100);
        Due.due("scheduled()", x.scheduled(), 3);
        Due.due("advance(1)", x.advance(1), 0);
        Due.due("late(), scheduled after the end", x.late(), 1);
        Due.due("duplicates(), scheduled after the end", x.duplicates(), 1);
        Due.due("scheduled()", x.scheduled(), 1);
        Due.due("arrive(6)", x.arrive(6), 1);
        Due.due("late()", x.late(), 2);
        Due.due("level()", x.level(), 0);
        Due.due("transit(1), long after", x.transit(1), 4101 - 6 * 4);
        Due.due("transit(2), in the tick of 4100", x.transit(2), 4100 - 5 * 4);
    }

    /** "`ticks`: 1 to 500", "Returns the number of samples that are output". */
    private static void leastAndGreatestAdvance() {
        PlayoutBuffer x = plain(4, 3);
        x.arrive(0);
        Due.due("advance(500), three of them before the start", x.advance(500), 497);
        Due.due("advance(1)", x.advance(1), 1);
        Due.due("time()", x.time(), 501);
        Due.due("outputs()", x.outputs(), 498);
    }

    /** "up to 256", of output: the row of the latest samples goes round. */
    private static void outputsGoRound() {
        for (int passed : new int[] {255, 256, 257, 511, 512, 513, 767, 769}) {
            PlayoutBuffer x = plain(16, 0);
            x.setWave(31, 13);
            Due.arrive(x, 0, 60);
            Due.pass(x, passed);
            for (int back : new int[] {1, 2, 128, 255, 256}) {
                int i = passed - back;
                int want = i < 0 ? NONE : 13 * (i % 31) % 201 - 100;
                Due.due("output(" + back + ") of " + passed, x.output(back), want);
            }
            Due.due("output(257) of " + passed, x.output(257), PlayoutBuffer.BAD_VALUE);
        }
    }

    /** "up to 32", of kind: the row of the latest kinds goes round. */
    private static void kindsGoRound() {
        for (int taken : new int[] {31, 32, 33, 63, 64, 65, 97}) {
            PlayoutBuffer x = plain(4, 0);
            for (int frame = 0; frame < 130; frame += 3) {
                x.arrive(frame);
            }
            Due.pass(x, 4 * taken);
            for (int back = 1; back <= 32; back++) {
                int frame = taken - back;
                int want = frame < 0 ? NONE : frame % 3 == 0 ? PlayoutBuffer.PLAYED : PlayoutBuffer.CONCEALED;
                Due.due("kind(" + back + ") of " + taken, x.kind(back), want);
            }
            Due.due("kind(33) of " + taken, x.kind(33), PlayoutBuffer.BAD_VALUE);
        }
    }

    /** "An object is used for at most 512 calls": 511 of them let as much time pass as can be. */
    private static void lastCallsOfALongLife() {
        PlayoutBuffer x = new PlayoutBuffer();
        for (int call = 1; call <= 509; call++) {
            Due.due("advance(500), call " + call, x.advance(500), 0);
        }
        Due.due("arrive(0), call 510", x.arrive(0), 1);
        Due.due("start(), call 511", x.start(), 509 * 500 + 16);
        Due.due("advance(500), call 512", x.advance(500), 484);
    }
}
