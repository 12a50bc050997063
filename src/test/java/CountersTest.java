/** Promises 28 to 34: the counters. */
public final class CountersTest {
    public static void main(String[] args) {
        taken();
        stretchedAndCompressed();
        late();
        duplicates();
        loss();
        longestGap();
        Due.end();
    }

    private static PlayoutBuffer plain() {
        PlayoutBuffer x = new PlayoutBuffer();
        x.setFrame(4);
        x.setInitialDelay(0);
        x.setAdapting(false);
        return x;
    }

    private static void taken() {
        PlayoutBuffer x = plain();
        for (int kind : new int[] {0, 4, -1, Integer.MAX_VALUE, Integer.MIN_VALUE}) {
            Due.due("28: taken(" + kind + ")", x.taken(kind), PlayoutBuffer.BAD_VALUE);
        }
        Due.arrive(x, 0, 2);
        x.arriveParity(true, 0, 0);
        x.arrive(5);
        x.advance(21);
        Due.due("28: taken(PLAYED)", x.taken(PlayoutBuffer.PLAYED), 4);
        Due.due("28: taken(RESTORED)", x.taken(PlayoutBuffer.RESTORED), 1);
        Due.due("28: taken(CONCEALED)", x.taken(PlayoutBuffer.CONCEALED), 1);
        x.arrive(4);
        Due.due("28: taken(CONCEALED), it came late", x.taken(PlayoutBuffer.CONCEALED), 1);
        Due.due("28: taken(PLAYED), it came late", x.taken(PlayoutBuffer.PLAYED), 4);
        x.advance(500);
        Due.due("28: taken(CONCEALED), later", x.taken(PlayoutBuffer.CONCEALED), 1 + 125);
    }

    private static void stretchedAndCompressed() {
        PlayoutBuffer x = plain();
        x.setAdapting(true);
        x.setMargin(0);
        x.setQuantile(1);
        Due.arrive(x, 0, 4);
        x.advance(5);
        // the levels are 16, 12, 8: compressed to 2 samples each; then 4: as it is
        Due.due("30: compressed()", x.compressed(), 3);
        Due.due("29: stretched()", x.stretched(), 0);
        x.advance(6);
        Due.due("30: compressed(), the level is 4 and 0", x.compressed(), 3);
        x.setMargin(9);
        Due.arrive(x, 6, 8);
        x.advance(4);
        // frame 5 is concealed and counts for neither; 6 has the level 8, 7 has 4 (4 + 4 is less than 9), 8 has 0
        x.advance(4);
        Due.due("29: next()", x.next(), 7);
        Due.due("29: stretched(), 8 + 4 is not less than 9", x.stretched(), 0);
        x.advance(4);
        Due.due("29: stretched(), 4 + 4 is less than 9", x.stretched(), 1);
        x.advance(6);
        Due.due("29: stretched()", x.stretched(), 2);
        Due.due("30: compressed()", x.compressed(), 3);
        x.advance(300);
        Due.due("29: stretched(), concealed frames are not", x.stretched(), 2);
        // restored frames are stretched, too
        PlayoutBuffer y = plain();
        y.setAdapting(true);
        y.setMargin(100);
        Due.arrive(y, 1, 3);
        y.arriveParity(true, 0, 0);
        y.advance(1);
        Due.due("29: stretched(), restored", y.stretched(), 1);
        Due.due("29: kind(1)", y.kind(1), 2);
        PlayoutBuffer z = plain();
        z.setMargin(100);
        z.arrive(0);
        z.advance(4);
        Due.due("29: stretched(), adapting is off", z.stretched(), 0);
    }

    private static void late() {
        PlayoutBuffer x = plain();
        x.arrive(1);
        x.arrive(0);
        Due.due("31: late(), before its turn", x.late(), 0);
        x.advance(9);
        x.arrive(2);
        Due.due("31: late(), while it is concealed", x.late(), 1);
        x.arrive(3);
        Due.due("31: late(), the next one is not", x.late(), 1);
        x.arrive(2);
        x.arrive(0);
        Due.due("31: late(), duplicates are not", x.late(), 1);
        x.arrive(1001);
        Due.due("31: late(), an error", x.late(), 1);
        x.advance(400);
        x.arrive(50);
        Due.due("31: late(), long after", x.late(), 2);
        Due.due("31: kind(32) stays", x.kind(32), 3);
        Due.schedule(x, "d51@410;");
        x.advance(2);
        Due.due("31: late(), from the schedule", x.late(), 3);
    }

    private static void duplicates() {
        PlayoutBuffer x = plain();
        x.arrive(1);
        x.arrive(1);
        x.arriveParity(false, 0, 1);
        x.arriveParity(false, 0, 1);
        x.arriveParity(true, 0, 1);
        Due.due("32: duplicates()", x.duplicates(), 2);
        x.arrive(5);
        x.arrive(9);
        Due.due("32: state(13)", x.state(13), 1);
        x.arrive(13);
        Due.due("32: duplicates(), restored before", x.duplicates(), 3);
        x.arriveParity(true, 500, 0);
        x.arrive(-1);
        Due.due("32: duplicates(), errors", x.duplicates(), 3);
        x.advance(100);
        x.arrive(0);
        Due.due("32: duplicates(), late is not", x.duplicates(), 3);
        x.arrive(0);
        Due.due("32: duplicates(), late twice", x.duplicates(), 4);
        Due.schedule(x, "d1@101;c0.1@101;");
        x.advance(2);
        Due.due("32: duplicates(), from the schedule", x.duplicates(), 6);
    }

    private static void loss() {
        PlayoutBuffer x = plain();
        Due.due("33: loss(false), none taken", x.loss(false), 0);
        Due.due("33: loss(true), none taken", x.loss(true), 1);
        Due.arrive(x, 0, 2);
        x.advance(12);
        Due.due("33: loss(false), none concealed", x.loss(false), 0);
        Due.due("33: loss(true), none concealed", x.loss(true), 1);
        x.advance(1);
        Due.due("33: loss(false), 1 of 4", x.loss(false), 1);
        Due.due("33: loss(true), 1 of 4", x.loss(true), 4);
        x.arrive(4);
        x.advance(8);
        Due.due("33: loss(false), 2 of 6", x.loss(false), 1);
        Due.due("33: loss(true), 2 of 6", x.loss(true), 3);
        x.advance(8);
        Due.due("33: loss(false), 4 of 8", x.loss(false), 1);
        Due.due("33: loss(true), 4 of 8", x.loss(true), 2);
        x.advance(4 * 7);
        Due.due("33: loss(false), 11 of 15", x.loss(false), 11);
        Due.due("33: loss(true), 11 of 15", x.loss(true), 15);
        PlayoutBuffer y = plain();
        y.arrive(999);
        y.advance(40);
        Due.due("33: loss(false), 10 of 10", y.loss(false), 1);
        Due.due("33: loss(true), 10 of 10", y.loss(true), 1);
        Due.pass(y, 4000);
        Due.due("33: loss(false), 999 of 1000", y.loss(false), 999);
        Due.due("33: loss(true), 999 of 1000", y.loss(true), 1000);
    }

    private static void longestGap() {
        PlayoutBuffer x = plain();
        x.arrive(3);
        x.advance(1);
        Due.due("34: longestGap(), a gap that goes on", x.longestGap(), 1);
        x.advance(12);
        Due.due("34: longestGap()", x.longestGap(), 3);
        x.arrive(6);
        x.arrive(8);
        x.arrive(9);
        x.arrive(11);
        x.arriveParity(true, 0, 2);
        x.advance(4 * 12);
        // 0 1 2, 4 5, 7 are gaps (10 is restored), and 12 to 15
        Due.due("34: longestGap()", x.longestGap(), 4);
        PlayoutBuffer y = plain();
        Due.arrive(y, 1, 1);
        Due.arrive(y, 3, 3);
        y.advance(16);
        Due.due("34: longestGap(), frames between", y.longestGap(), 1);
        Due.due("34: taken(CONCEALED)", y.taken(3), 2);
        Due.due("34: restored frames end a gap", restoredEndsGap(), 1);
    }

    private static int restoredEndsGap() {
        PlayoutBuffer x = plain();
        Due.arrive(x, 5, 5);
        Due.arrive(x, 9, 9);
        Due.arrive(x, 13, 13);
        x.arriveParity(false, 0, 1);
        x.advance(12);
        return x.longestGap();
    }
}
