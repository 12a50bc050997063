/** Promises 9 to 13: arrivals and time. */
public final class ArrivalsTest {
    public static void main(String[] args) {
        arrive();
        arriveAboveLastFrame();
        arriveParity();
        arriveParityWrong();
        arriveParityOfLastBlock();
        advance();
        advanceToTheEnd();
        advanceWithSchedule();
        time();
        start();
        Due.end();
    }

    private static void arrive() {
        PlayoutBuffer x = new PlayoutBuffer();
        Due.due("9: arrive(-1)", x.arrive(-1), PlayoutBuffer.BAD_VALUE);
        Due.due("9: arrive(1000)", x.arrive(1000), PlayoutBuffer.BAD_VALUE);
        Due.due("9: arrive(MAX)", x.arrive(Integer.MAX_VALUE), PlayoutBuffer.BAD_VALUE);
        Due.due("9: arrive(MIN)", x.arrive(Integer.MIN_VALUE), PlayoutBuffer.BAD_VALUE);
        Due.due("9: start() after errors", x.start(), PlayoutBuffer.NONE);
        Due.due("9: arrive(0)", x.arrive(0), 1);
        Due.due("9: arrive(0) again", x.arrive(0), 0);
        Due.due("9: duplicates()", x.duplicates(), 1);
        Due.due("9: arrive(999)", x.arrive(999), 1);
        Due.due("9: state(999)", x.state(999), 2);
        // a parity packet that waits: the frame that arrives restores another one
        x.arriveParity(true, 1, 0);
        Due.due("9: arrive(16)", x.arrive(16), 1);
        Due.due("9: arrive(18)", x.arrive(18), 1);
        Due.due("9: arrive(17)", x.arrive(17), 2);
        Due.due("9: state(19)", x.state(19), 1);
        Due.due("9: arrive(19), restored before", x.arrive(19), 0);
        Due.due("9: state(19) stays", x.state(19), 1);
        Due.due("9: transits()", x.transits(), 5);
        // a chain: the column restores what completes the row, which restores the last one
        PlayoutBuffer y = new PlayoutBuffer();
        y.setBlock(2, 2);
        y.arriveParity(true, 0, 0);
        y.arriveParity(false, 0, 1);
        y.arriveParity(true, 0, 1);
        Due.due("9: arrive(2), a chain of four", y.arrive(2), 4);
        Due.due("9: state(0)", y.state(0), 1);
        Due.due("9: state(2)", y.state(2), 2);
    }

    private static void arriveAboveLastFrame() {
        // 6 * 6: the last block has the frames 972 to 1007, its row 4 the frames 996 to 1001
        PlayoutBuffer x = new PlayoutBuffer();
        x.setBlock(6, 6);
        x.arriveParity(true, 27, 4);
        Due.due("9: arrive(996)", x.arrive(996), 1);
        Due.due("9: arrive(998)", x.arrive(998), 1);
        Due.due("9: arrive(997)", x.arrive(997), 2);
        Due.due("9: state(999)", x.state(999), 1);
    }

    private static void arriveParity() {
        PlayoutBuffer x = new PlayoutBuffer();
        Due.due("10: arriveParity(true, 0, 1)", x.arriveParity(true, 0, 1), 0);
        Due.due("10: start()", x.start(), 16);
        Due.due("10: transits()", x.transits(), 0);
        Due.due("10: arriveParity(true, 0, 1) again", x.arriveParity(true, 0, 1), 0);
        Due.due("10: duplicates()", x.duplicates(), 1);
        Due.due("10: arriveParity(false, 0, 1), not the same", x.arriveParity(false, 0, 1), 0);
        Due.due("10: duplicates() stays", x.duplicates(), 1);
        Due.arrive(x, 8, 10);
        Due.due("10: arriveParity(true, 0, 2)", x.arriveParity(true, 0, 2), 1);
        Due.due("10: state(11)", x.state(11), 1);
        // a packet whose frames are all known is no duplicate
        Due.arrive(x, 12, 15);
        Due.due("10: arriveParity(true, 0, 3)", x.arriveParity(true, 0, 3), 0);
        Due.due("10: duplicates() stays", x.duplicates(), 1);
        // column 3 has 3, 7, 11, 15
        x.arrive(3);
        Due.due("10: arriveParity(false, 0, 3)", x.arriveParity(false, 0, 3), 1);
        Due.due("10: state(7)", x.state(7), 1);
        // frames that were played are restored as well
        x.advance(200);
        x.arrive(32);
        x.arrive(33);
        x.arrive(34);
        int next = x.next();
        Due.due("10: next() has passed some frames", next > 8 ? 1 : 0, 1);
        Due.due("10: arriveParity(true, 2, 0)", x.arriveParity(true, 2, 0), 1);
        Due.due("10: late() counts no restored frame", x.late(), 0);
        PlayoutBuffer y = new PlayoutBuffer();
        y.setInitialDelay(0);
        y.arrive(1);
        y.arrive(2);
        y.arrive(3);
        y.advance(1);
        Due.due("10: kind(1)", y.kind(1), 3);
        Due.due("10: arriveParity(true, 0, 0), frame 0 was concealed", y.arriveParity(true, 0, 0), 1);
        Due.due("10: state(0)", y.state(0), 1);
        Due.due("10: late()", y.late(), 0);
        Due.due("10: next()", y.next(), 1);
    }

    private static void arriveParityWrong() {
        PlayoutBuffer x = new PlayoutBuffer();
        x.setBlock(3, 5);
        int[][] bad = {{1, -1, 0}, {1, 67, 0}, {1, 0, 5}, {1, 0, -1}, {0, 0, 3}, {0, 0, -1}, {0, 67, 0},
            {1, Integer.MAX_VALUE, 0}, {0, Integer.MIN_VALUE, 0}, {0, 0, Integer.MAX_VALUE}, {1, 0x10000000, 0}};
        for (int[] b : bad) {
            Due.due("10: arriveParity, wrong", x.arriveParity(b[0] == 1, b[1], b[2]), PlayoutBuffer.BAD_VALUE);
        }
        Due.due("10: start() after errors", x.start(), PlayoutBuffer.NONE);
        Due.due("10: arriveParity(true, 66, 4)", x.arriveParity(true, 66, 4), 0);
        Due.due("10: arriveParity(false, 66, 2)", x.arriveParity(false, 66, 2), 0);
    }

    private static void arriveParityOfLastBlock() {
        // 3 * 5: the last block has the frames 990 to 1004: row 3 has 999 alone, row 4 none of the stream
        PlayoutBuffer x = new PlayoutBuffer();
        x.setBlock(3, 5);
        Due.due("10: arriveParity(true, 66, 3)", x.arriveParity(true, 66, 3), 1);
        Due.due("10: state(999)", x.state(999), 1);
        Due.due("10: arriveParity(true, 66, 4)", x.arriveParity(true, 66, 4), 0);
        Due.due("10: arriveParity(true, 66, 4) again", x.arriveParity(true, 66, 4), 0);
        Due.due("10: duplicates()", x.duplicates(), 1);
        Due.due("10: arriveParity(false, 66, 1)", x.arriveParity(false, 66, 1), 0);
        Due.due("10: missing(false, 66, 1)", x.missing(false, 66, 1), 3);
    }

    private static void advance() {
        PlayoutBuffer x = new PlayoutBuffer();
        Due.due("11: advance(0)", x.advance(0), PlayoutBuffer.BAD_VALUE);
        Due.due("11: advance(-1)", x.advance(-1), PlayoutBuffer.BAD_VALUE);
        Due.due("11: advance(501)", x.advance(501), PlayoutBuffer.BAD_VALUE);
        Due.due("11: time() after errors", x.time(), 0);
        Due.due("11: advance(500), nothing has arrived", x.advance(500), 0);
        x.arrive(0);
        Due.due("11: advance(16), playing has not begun", x.advance(16), 0);
        Due.due("11: next()", x.next(), 0);
        Due.due("11: advance(1)", x.advance(1), 1);
        Due.due("11: next()", x.next(), 1);
        Due.due("11: advance(500)", x.advance(500), 500);
        // frames are taken in their order; a frame that is output goes on to its end
        PlayoutBuffer y = new PlayoutBuffer();
        y.setInitialDelay(0);
        y.setAdapting(false);
        y.setFrame(5);
        Due.arrive(y, 0, 1);
        Due.due("11: advance(7)", y.advance(7), 7);
        Due.outputs("11", y, -100, -75, -50, -25, 0, 25, 50);
        Due.due("11: left()", y.left(), 3);
        Due.due("11: advance(3)", y.advance(3), 3);
        Due.due("11: left()", y.left(), 0);
        Due.due("11: next(), 2 is not taken yet", y.next(), 2);
        y.arrive(2);
        y.advance(1);
        Due.due("11: kind(1)", y.kind(1), 1);
        Due.due("11: late()", y.late(), 0);
    }

    private static void advanceToTheEnd() {
        PlayoutBuffer x = new PlayoutBuffer();
        x.setFrame(4);
        x.setInitialDelay(0);
        x.setAdapting(false);
        x.arrive(999);
        Due.pass(x, 3996);
        Due.due("11: next()", x.next(), 999);
        Due.due("11: advance(3)", x.advance(3), 3);
        Due.due("11: next()", x.next(), PlayoutBuffer.NONE);
        Due.due("11: kind(1)", x.kind(1), 1);
        Due.due("11: advance(3), one sample is left", x.advance(3), 1);
        Due.due("11: advance(500), nothing is left", x.advance(500), 0);
        Due.due("11: outputs()", x.outputs(), 4000);
        Due.due("11: time()", x.time(), 4502);
        Due.due("11: taken(3)", x.taken(3), 999);
        Due.due("11: arrive(5), late", x.arrive(5), 1);
        Due.due("11: late()", x.late(), 1);
        Due.due("11: level()", x.level(), 0);
    }

    private static void advanceWithSchedule() {
        PlayoutBuffer x = new PlayoutBuffer();
        x.setInitialDelay(0);
        Due.schedule(x, "d0@3;d0@3;c0.1@2;");
        Due.due("11: advance(2)", x.advance(2), 0);
        Due.due("11: scheduled()", x.scheduled(), 3);
        // the arrival comes before the sample of its tick
        Due.due("11: advance(1)", x.advance(1), 1);
        Due.due("11: scheduled()", x.scheduled(), 2);
        Due.due("11: start()", x.start(), 2);
        Due.due("11: kind(1)", x.kind(1), 3);
        x.advance(1);
        Due.due("11: late()", x.late(), 1);
        Due.due("11: duplicates()", x.duplicates(), 1);
        Due.due("11: scheduled()", x.scheduled(), 0);
        // of several at the same time, first the one that was scheduled first: the row restores frame 3 before it
        PlayoutBuffer y = new PlayoutBuffer();
        Due.arrive(y, 0, 2);
        Due.schedule(y, "r0.0@5;d3@5;");
        y.advance(6);
        Due.due("11: state(3), the row came first", y.state(3), 1);
        Due.due("11: duplicates()", y.duplicates(), 1);
        PlayoutBuffer z = new PlayoutBuffer();
        Due.arrive(z, 0, 2);
        Due.schedule(z, "d3@5;");
        Due.schedule(z, "r0.0@5;");
        z.advance(6);
        Due.due("11: state(3), the frame came first", z.state(3), 2);
        Due.due("11: duplicates()", z.duplicates(), 0);
        // an arrival counts in the tick in which its frame is taken
        PlayoutBuffer w = new PlayoutBuffer();
        w.setInitialDelay(8);
        w.arrive(1);
        Due.schedule(w, "d0@8;");
        w.advance(9);
        Due.due("11: kind(1), arrived just in time", w.kind(1), 1);
        Due.due("11: late()", w.late(), 0);
    }

    private static void time() {
        PlayoutBuffer x = new PlayoutBuffer();
        x.advance(1);
        Due.due("12: time()", x.time(), 1);
        x.advance(500);
        Due.due("12: time()", x.time(), 501);
        x.advance(501);
        Due.due("12: time() after an error", x.time(), 501);
        x.arrive(0);
        x.gapsIn(100);
        Due.due("12: time() after a prediction", x.time(), 501);
        Due.pass(x, 200_000);
        Due.due("12: time(), long after", x.time(), 200_501);
    }

    private static void start() {
        PlayoutBuffer x = new PlayoutBuffer();
        x.advance(10);
        Due.due("13: start()", x.start(), PlayoutBuffer.NONE);
        Due.schedule(x, "d5@100;");
        Due.due("13: start(), scheduled alone", x.start(), PlayoutBuffer.NONE);
        x.arriveParity(false, 3, 2);
        Due.due("13: start()", x.start(), 26);
        x.advance(7);
        x.arrive(0);
        Due.due("13: start(), the first packet counts", x.start(), 26);
        x.advance(300);
        Due.due("13: start() later", x.start(), 26);
        PlayoutBuffer y = new PlayoutBuffer();
        Due.schedule(y, "d5@100;");
        y.advance(100);
        Due.due("13: start() before the tick", y.start(), PlayoutBuffer.NONE);
        y.advance(1);
        Due.due("13: start() after it", y.start(), 116);
    }
}
