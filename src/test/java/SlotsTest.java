/** Promises 43 to 45: slots and the checksum. */
public final class SlotsTest {
    public static void main(String[] args) {
        keep();
        restore();
        frameThatIsOutput();
        scheduleIsKeptOnce();
        everythingIsKept();
        checksum();
        Due.end();
    }

    private static void keep() {
        PlayoutBuffer x = new PlayoutBuffer();
        for (int slot : new int[] {-1, 2, Integer.MAX_VALUE, Integer.MIN_VALUE}) {
            Due.due("43: keep(" + slot + ")", x.keep(slot), PlayoutBuffer.BAD_VALUE);
        }
        Due.due("43: keep(1)", x.keep(1), 0);
        Due.due("43: restore(0), nothing is kept", x.restore(0), PlayoutBuffer.NOT_POSSIBLE);
        x.advance(7);
        Due.due("43: keep(0)", x.keep(0), 7);
        x.advance(3);
        Due.due("43: keep(0), in place of the other", x.keep(0), 10);
        x.advance(5);
        Due.due("43: restore(0)", x.restore(0), 10);
        Due.due("43: restore(1)", x.restore(1), 0);
        Due.due("43: restore(0)", x.restore(0), 10);
    }

    private static void restore() {
        PlayoutBuffer x = new PlayoutBuffer();
        for (int slot : new int[] {-1, 2, Integer.MAX_VALUE, Integer.MIN_VALUE}) {
            Due.due("44: restore(" + slot + ")", x.restore(slot), PlayoutBuffer.BAD_VALUE);
        }
        Due.due("44: restore(0)", x.restore(0), PlayoutBuffer.NOT_POSSIBLE);
        x.arrive(0);
        x.advance(20);
        Due.type(x, "d1@2");
        x.keep(0);
        long kept = x.checksum();
        x.append(';');
        x.advance(30);
        x.arrive(9);
        x.keep(1);
        Due.due("44: restore(0)", x.restore(0), 20);
        Due.due("44: checksum()", x.checksum(), kept);
        Due.due("44: clearText(), the text is no part of it", x.clearText(), 5);
        Due.due("44: state(9)", x.state(9), 0);
        x.arrive(5);
        x.advance(1);
        // the slot keeps it, as it was
        Due.due("44: restore(0) again", x.restore(0), 20);
        Due.due("44: checksum()", x.checksum(), kept);
        Due.due("44: state(5)", x.state(5), 0);
        Due.due("44: restore(1), the slots are no part of it", x.restore(1), 50);
        Due.due("44: state(9)", x.state(9), 2);
    }

    private static void frameThatIsOutput() {
        PlayoutBuffer x = new PlayoutBuffer();
        x.setInitialDelay(0);
        x.setMargin(0);
        Due.arrive(x, 0, 1);
        x.advance(3);
        x.keep(0);
        Due.pass(x, 60);
        x.restore(0);
        Due.due("44: left()", x.left(), 5);
        x.advance(13);
        Due.outputs("44", x, -100, -75, -50, -25, 0, 25, 50, 75, 100, -76, -51, -26, -1, 24, 49, 74);
    }

    private static void scheduleIsKeptOnce() {
        PlayoutBuffer x = new PlayoutBuffer();
        Due.schedule(x, "d0@5;d1@6;d2@7;");
        x.keep(0);
        x.keep(0);
        Due.due("44: restore(0)", x.restore(0), 0);
        Due.due("44: scheduled()", x.scheduled(), 3);
        x.restore(0);
        Due.due("44: scheduled(), restored twice", x.scheduled(), 3);
        x.advance(10);
        Due.due("44: duplicates()", x.duplicates(), 0);
        Due.due("44: transits()", x.transits(), 3);
        x.restore(0);
        Due.due("44: scheduled(), restored from the past", x.scheduled(), 3);
    }

    /** An object in the midst of a frame, in which each counter has counted. */
    private static PlayoutBuffer rich() {
        PlayoutBuffer x = new PlayoutBuffer();
        x.setFrame(6);
        x.setWave(13, 77);
        x.setBlock(3, 4);
        x.setInitialDelay(9);
        x.setQuantile(12);
        x.setMargin(5);
        // frames 0 and 1 are compressed, frame 4 is stretched, 5 and 6 are concealed
        Due.arrive(x, 0, 4);
        Due.arrive(x, 7, 8);
        Due.arrive(x, 10, 11);
        x.arriveParity(true, 0, 3);
        x.arriveParity(true, 1, 2);
        x.advance(61);
        Due.arrive(x, 14, 19);
        x.arrive(5);
        x.arrive(18);
        Due.schedule(x, "d40@80;r4.1@81;c5.2@82;d20@64;");
        x.advance(4);
        return x;
    }

    /** What an object answers now, and what it would answer later. */
    private static long[] answers(PlayoutBuffer x) {
        long[] all = new long[40];
        int n = 0;
        all[n++] = x.checksum();
        all[n++] = x.ticksToGap();
        all[n++] = x.gapsIn(500);
        all[n++] = x.ticksToFrame(60);
        all[n++] = x.missing(true, 1, 2);
        all[n++] = x.transit(0);
        all[n++] = x.transit(5);
        all[n++] = x.sample(5, 5);
        all[n++] = x.paritySample(false, 7, 2, 3);
        all[n++] = x.loss(true);
        all[n++] = x.arrive(12);
        all[n++] = x.arriveParity(true, 1, 2);
        all[n++] = x.duplicates();
        all[n++] = x.advance(100);
        all[n++] = x.checksum();
        all[n++] = x.arriveParity(true, 5, 1);
        all[n++] = x.arrive(61);
        all[n++] = x.arrive(62);
        all[n++] = x.output(200);
        all[n++] = x.kind(25);
        all[n++] = x.setQuantile(5);
        all[n++] = x.setMargin(5);
        all[n++] = x.setAdapting(false);
        all[n++] = x.setFrame(5);
        all[n++] = x.advance(500);
        all[n++] = x.checksum();
        return all;
    }

    private static void everythingIsKept() {
        long[] want = answers(rich());
        PlayoutBuffer x = rich();
        x.keep(1);
        x.setAdapting(false);
        x.setQuantile(1);
        x.setMargin(1);
        Due.arrive(x, 500, 530);
        for (int block = 0; block < 60; block++) {
            x.arriveParity(true, block, 2);
        }
        Due.pass(x, 900);
        for (int again = 0; again < 2; again++) {
            Due.due("44: restore(1)", x.restore(1), 65);
            long[] got = answers(x);
            for (int i = 0; i < got.length; i++) {
                Due.due("44: answer " + i, got[i], want[i]);
            }
        }
        // the settings are kept as well: those of a new object can be had back
        PlayoutBuffer y = new PlayoutBuffer();
        y.keep(0);
        y.setFrame(4);
        y.setWave(2, 2);
        y.setBlock(2, 2);
        y.setInitialDelay(2);
        y.setQuantile(2);
        y.setMargin(2);
        // compressed and stretched frames, late ones, and duplicates
        Due.arrive(y, 0, 5);
        y.arriveParity(true, 2, 0);
        y.arriveParity(true, 2, 0);
        y.arrive(8);
        y.advance(500);
        y.arrive(7);
        Due.due("44: compressed() before", y.compressed() > 0 ? 1 : 0, 1);
        y.setMargin(100);
        y.arrive(y.next());
        y.advance(10);
        Due.due("44: stretched() before", y.stretched() > 0 ? 1 : 0, 1);
        y.setAdapting(false);
        Due.schedule(y, "d900@9999;");
        y.restore(0);
        Due.due("44: checksum() of a new object", y.checksum(), new PlayoutBuffer().checksum());
        Due.due("44: setFrame", y.setFrame(8), 8);
        Due.due("44: setWave", y.setWave(16, 25), 16025);
        Due.due("44: setBlock", y.setBlock(4, 4), 44);
        Due.due("44: setInitialDelay", y.setInitialDelay(16), 16);
        Due.due("44: setQuantile", y.setQuantile(90), 90);
        Due.due("44: setMargin", y.setMargin(8), 8);
        Due.due("44: setAdapting", y.setAdapting(true), 1);
        Due.due("44: start()", y.start(), PlayoutBuffer.NONE);
        Due.due("44: scheduled()", y.scheduled(), 0);
    }

    private static long checksumOf(PlayoutBuffer x) {
        long h = 41;
        long[] first = {x.time(), x.start(), x.outputs(), x.left(), x.next(), x.target(), x.level(), x.transits(),
            x.taken(1), x.taken(2), x.taken(3), x.stretched(), x.compressed(), x.late(), x.duplicates(),
            x.longestGap(), x.scheduled()};
        for (long value : first) {
            h = 31 * h + value;
        }
        for (int i = 1; i <= 64; i++) {
            h = 31 * h + x.output(i);
        }
        for (int i = 1; i <= 16; i++) {
            h = 31 * h + x.kind(i);
        }
        for (int i = 0; i < 100; i++) {
            h = 31 * h + x.state(i);
        }
        return h;
    }

    private static void checksum() {
        PlayoutBuffer x = new PlayoutBuffer();
        Due.due("45: checksum() of a new object", x.checksum(), checksumOf(x));
        x = rich();
        Due.due("45: stretched()", x.stretched() > 0 ? 1 : 0, 1);
        Due.due("45: compressed()", x.compressed() > 0 ? 1 : 0, 1);
        Due.due("45: late()", x.late() > 0 ? 1 : 0, 1);
        Due.due("45: duplicates()", x.duplicates() > 0 ? 1 : 0, 1);
        Due.due("45: taken(2)", x.taken(2) > 0 ? 1 : 0, 1);
        Due.due("45: taken(3)", x.taken(3) > 0 ? 1 : 0, 1);
        Due.due("45: left()", x.left() > 0 ? 1 : 0, 1);
        long before = x.checksum();
        Due.due("45: checksum()", before, checksumOf(x));
        Due.due("45: checksum() changes nothing", x.checksum(), before);
        x.arrive(99);
        Due.due("45: checksum() has state(99)", x.checksum() == before ? 1 : 0, 0);
        Due.due("45: checksum()", x.checksum(), checksumOf(x));
        // another object: each is used for 512 calls at most
        x = rich();
        x.arrive(99);
        Due.pass(x, 8000);
        Due.due("45: checksum() at the end", x.checksum(), checksumOf(x));
        Due.due("45: next()", x.next(), PlayoutBuffer.NONE);
        // the text is no part of it
        long end = x.checksum();
        x.clearText();
        Due.due("45: checksum() without the text", x.checksum(), end);
    }
}
