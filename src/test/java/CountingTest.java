/** The counters, frame by frame: taken(), loss() and longestGap() from nothing to the end. */
public final class CountingTest {
    public static void main(String[] args) {
        nothingWasTaken();
        frameByFrame();
        gapsAtBothEnds();
        allFramesConcealed();
        allFramesPlayed();
        duplicatesOfAllSorts();
        Due.end();
    }

    private static PlayoutBuffer plain() {
        PlayoutBuffer x = new PlayoutBuffer();
        x.setFrame(4);
        x.setInitialDelay(0);
        x.setAdapting(false);
        return x;
    }

    private static void loss(String what, PlayoutBuffer x, int numerator, int denominator) {
        Due.due("33: loss(false), " + what, x.loss(false), numerator);
        Due.due("33: loss(true), " + what, x.loss(true), denominator);
    }

    /** "0 is 0 / 1; 0 if none was taken" */
    private static void nothingWasTaken() {
        PlayoutBuffer x = new PlayoutBuffer();
        loss("new", x, 0, 1);
        x.advance(100);
        loss("nothing has arrived", x, 0, 1);
        x.arrive(1);
        x.advance(16);
        loss("before the start", x, 0, 1);
        Due.due("34: longestGap()", x.longestGap(), 0);
        x.advance(1);
        loss("one of one", x, 1, 1);
        Due.due("34: longestGap()", x.longestGap(), 1);
    }

    /** "as a fraction in lowest terms", "the greatest number of frames that were concealed in succession" */
    private static void frameByFrame() {
        PlayoutBuffer x = plain();
        String frames = "pp-p--p---ppp-p-----pp---ppppp------p-p-";
        for (int k = 0; k < frames.length(); k++) {
            if (frames.charAt(k) == 'p') {
                x.arrive(k);
            }
        }
        int lost = 0;
        int gap = 0;
        int longest = 0;
        for (int k = 0; k < frames.length(); k++) {
            x.advance(1);
            boolean concealed = frames.charAt(k) != 'p';
            lost += concealed ? 1 : 0;
            gap = concealed ? gap + 1 : 0;
            longest = Math.max(longest, gap);
            int divisor = Math.max(1, divisor(lost, k + 1));
            loss("after frame " + k, x, lost / divisor, lost == 0 ? 1 : (k + 1) / divisor);
            Due.due("34: longestGap(), after frame " + k, x.longestGap(), longest);
            Due.due("28: taken(CONCEALED), after frame " + k, x.taken(3), lost);
            Due.due("28: taken(PLAYED), after frame " + k, x.taken(1), k + 1 - lost);
            Due.due("28: taken(RESTORED), after frame " + k, x.taken(2), 0);
            x.advance(3);
        }
    }

    private static int divisor(int a, int b) {
        int greatest = 0;
        for (int d = 1; d <= a; d++) {
            greatest = a % d == 0 && b % d == 0 ? d : greatest;
        }
        return greatest;
    }

    /** A gap counts from its first frame on, and to the very end of the stream. */
    private static void gapsAtBothEnds() {
        PlayoutBuffer x = plain();
        x.arrive(2);
        x.advance(9);
        Due.due("34: longestGap(), at the beginning", x.longestGap(), 2);
        Due.arrive(x, 4, 4);
        x.arrive(996);
        Due.pass(x, 991 * 4);
        Due.due("34: longestGap(), 5 to 993", x.longestGap(), 989);
        Due.pass(x, 100);
        Due.due("17: next()", x.next(), PlayoutBuffer.NONE);
        Due.due("34: longestGap(), 5 to 995", x.longestGap(), 991);
        loss("at the end", x, 997, 1000);
    }

    private static void allFramesConcealed() {
        PlayoutBuffer x = plain();
        x.arriveParity(true, 62, 3);
        Due.pass(x, 4100);
        Due.due("28: taken(CONCEALED)", x.taken(3), 1000);
        Due.due("34: longestGap()", x.longestGap(), 1000);
        loss("all concealed", x, 1, 1);
        Due.due("31: late()", x.late(), 0);
    }

    private static void allFramesPlayed() {
        PlayoutBuffer x = plain();
        x.setBlock(2, 2);
        // two frames of each block and three packets give the others
        for (int block = 0; block < 60; block++) {
            x.arrive(4 * block);
            x.arrive(4 * block + 3);
            x.arriveParity(true, block, 0);
            x.arriveParity(false, block, 0);
        }
        Due.pass(x, 960);
        Due.due("28: taken(PLAYED)", x.taken(1), 120);
        Due.due("28: taken(RESTORED)", x.taken(2), 120);
        Due.due("28: taken(CONCEALED)", x.taken(3), 0);
        Due.due("34: longestGap()", x.longestGap(), 0);
        loss("none concealed", x, 0, 1);
        Due.due("29: stretched(), adapting is off", x.stretched(), 0);
        Due.due("30: compressed(), adapting is off", x.compressed(), 0);
    }

    /** "Returns the number of duplicates.": of frames and packets, by calls and from the schedule. */
    private static void duplicatesOfAllSorts() {
        PlayoutBuffer x = plain();
        int count = 0;
        Due.schedule(x, "d0@1;d0@1;r0.0@1;r0.0@2;c0.0@2;c0.0@2;");
        for (int want : new int[] {0, 1, 3}) {
            x.advance(1);
            Due.due("32: duplicates(), from the schedule", x.duplicates(), want);
            count = want;
        }
        for (int again = 1; again <= 3; again++) {
            x.arrive(0);
            x.arriveParity(true, 0, 0);
            x.arriveParity(false, 0, 0);
            Due.due("32: duplicates(), by calls", x.duplicates(), count + 3 * again);
        }
        x.arrive(-1);
        x.arrive(1000);
        x.arriveParity(true, 0, 4);
        Due.due("32: duplicates(), errors are none", x.duplicates(), count + 9);
    }
}
