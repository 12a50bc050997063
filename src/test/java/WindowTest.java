import java.util.Arrays;

/** The window of the latest transits, and the target, which is a quantile of them. */
public final class WindowTest {
    public static void main(String[] args) {
        transitsOfEachFrameSize();
        lowTransits();
        windowHoldsSixteen();
        windowGoesRound();
        windowKeepsEqualTransits();
        whoHasNoTransit();
        lateFramesHaveOne();
        targetWithoutTransits();
        targetOfOneTransit();
        targetOfAllQuantiles();
        targetOfEqualTransits();
        targetForgetsWithTheWindow();
        targetIsNotCut();
        Due.end();
    }

    private static PlayoutBuffer sized(int samples) {
        PlayoutBuffer x = new PlayoutBuffer();
        x.setFrame(samples);
        return x;
    }

    /** "its transit is the time minus k * N, for frame k" */
    private static void transitsOfEachFrameSize() {
        for (int n = 4; n <= 16; n++) {
            for (int k : new int[] {0, 1, 7}) {
                for (int time : new int[] {0, 1, k * n, 300}) {
                    PlayoutBuffer x = sized(n);
                    if (time > 0) {
                        x.advance(time);
                    }
                    x.arrive(k);
                    Due.due("transit(0) of " + k + " at " + time, x.transit(0), time - k * n);
                }
            }
        }
        PlayoutBuffer y = sized(4);
        for (int i = 0; i < 500; i++) {
            y.advance(500);
        }
        y.arrive(0);
        Due.due("transit(0), the greatest there can be", y.transit(0), 250000);
    }

    /** "Returns the transit, but at least -999 (lower ones are given as -999)". */
    private static void lowTransits() {
        for (int n = 4; n <= 16; n++) {
            for (int time = 0; time < n; time++) {
                PlayoutBuffer x = sized(n);
                if (time > 0) {
                    x.advance(time);
                }
                int least = 999 / n;
                for (int k = least - 1; k <= least + 3; k++) {
                    x.arrive(k);
                }
                for (int i = 0; i < 5; i++) {
                    Due.due("transit(" + i + ") near -999", x.transit(i), Math.max(-999, time - (least + 3 - i) * n));
                }
                x.arrive(999);
                Due.due("transit(0) of 999", x.transit(0), -999);
            }
        }
    }

    /** "The window contains the latest 16 transits." */
    private static void windowHoldsSixteen() {
        PlayoutBuffer x = sized(4);
        for (int k = 1; k <= 40; k++) {
            x.arrive(3 * k);
            Due.due("transits() after " + k, x.transits(), Math.min(16, k));
            Due.due("transit(last) after " + k, x.transit(Math.min(16, k) - 1), -12 * Math.max(1, k - 15));
            Due.due("transit(0) after " + k, x.transit(0), -12 * k);
            Due.due("transit(16) after " + k, x.transit(16), PlayoutBuffer.BAD_VALUE);
        }
    }

    /** Every place of the window is written anew, in its turn: 48 transits in no order. */
    private static void windowGoesRound() {
        int[] transits = new int[48];
        PlayoutBuffer x = sized(4);
        for (int i = 0; i < 48; i++) {
            int frame = i * 29 % 97;
            x.advance(1 + i % 3);
            x.arrive(frame);
            transits[i] = x.time() - 4 * frame;
            int m = Math.min(16, i + 1);
            int[] window = Arrays.copyOfRange(transits, i + 1 - m, i + 1);
            Arrays.sort(window);
            for (int j : new int[] {0, m / 3, m / 2, m - 1}) {
                Due.due("transit(" + j + ") of " + (i + 1), x.transit(j), window[j]);
            }
            Due.due("target() of " + (i + 1), x.target(), window[(90 * m + 99) / 100 - 1] - window[0] + 8);
        }
    }

    private static void windowKeepsEqualTransits() {
        PlayoutBuffer x = sized(5);
        for (int k = 0; k < 20; k++) {
            x.arrive(k);
            x.advance(5);
            Due.due("transits()", x.transits(), Math.min(16, k + 1));
        }
        for (int i = 0; i < 16; i++) {
            Due.due("transit(" + i + "), all alike", x.transit(i), 0);
        }
        x.advance(1);
        x.arrive(20);
        Due.due("transit(14)", x.transit(14), 0);
        Due.due("transit(15)", x.transit(15), 1);
    }

    /** "When a frame arrives that is no duplicate": no packet, no duplicate and no restored frame has a transit. */
    private static void whoHasNoTransit() {
        PlayoutBuffer x = sized(4);
        x.arriveParity(true, 0, 0);
        Due.due("transits(), a packet", x.transits(), 0);
        Due.arrive(x, 0, 2);
        Due.due("transits(), three frames and a restored one", x.transits(), 3);
        x.advance(3);
        Due.arrive(x, 0, 3);
        Due.due("transits(), duplicates", x.transits(), 3);
        Due.due("transit(2)", x.transit(2), 0);
        x.arrive(1000);
        x.arrive(-1);
        Due.due("transits(), errors", x.transits(), 3);
        Due.schedule(x, "d2@9;d4@9;r0.1@9;");
        x.advance(10);
        Due.due("transits(), scheduled", x.transits(), 4);
        Due.due("transit(0)", x.transit(0), -8);
    }

    /** "(late or not)" */
    private static void lateFramesHaveOne() {
        PlayoutBuffer x = sized(4);
        x.setInitialDelay(0);
        x.arrive(9);
        x.advance(20);
        Due.arrive(x, 0, 3);
        Due.due("late()", x.late(), 4);
        Due.due("transits()", x.transits(), 5);
        Due.due("transit(0)", x.transit(0), -36);
        Due.due("transit(1)", x.transit(1), 8);
        Due.due("transit(4)", x.transit(4), 20);
        Due.due("target()", x.target(), 20 + 36 + 8);
    }

    /** "Without transits the target is the margin", "from 0 to 100, at first 8". */
    private static void targetWithoutTransits() {
        PlayoutBuffer x = new PlayoutBuffer();
        Due.due("target(), at first", x.target(), 8);
        x.arriveParity(true, 0, 0);
        for (int margin = 0; margin <= 100; margin++) {
            x.setMargin(margin);
            Due.due("target(), margin " + margin, x.target(), margin);
        }
        x.setQuantile(1);
        Due.due("target(), another quantile", x.target(), 100);
    }

    private static void targetOfOneTransit() {
        for (int q = 1; q <= 100; q++) {
            PlayoutBuffer x = new PlayoutBuffer();
            x.setQuantile(q);
            x.advance(77);
            x.arrive(2);
            Due.due("target() of one, quantile " + q, x.target(), 8);
        }
    }

    /** "let i be (q * m + 99) / 100; the target is v(i) - v(1), plus the margin": for every q and every m. */
    private static void targetOfAllQuantiles() {
        for (int m = 1; m <= 16; m++) {
            PlayoutBuffer x = sized(4);
            x.setMargin(0);
            // v(i) - v(1) is 4 * (i - 1) * i, in another order
            for (int j = 0; j < m; j++) {
                int i = j * 29 % m;
                x.arrive(400 - i * (i + 1));
            }
            Due.due("transits()", x.transits(), m);
            for (int q = 1; q <= 100; q++) {
                x.setQuantile(q);
                int i = (q * m + 99) / 100;
                Due.due("target() of " + m + ", quantile " + q, x.target(), 4 * (i - 1) * i);
            }
        }
    }

    private static void targetOfEqualTransits() {
        PlayoutBuffer x = sized(4);
        x.setQuantile(100);
        for (int k = 0; k < 16; k++) {
            x.arrive(k);
            Due.due("target(), all alike", x.target(), 8);
            x.advance(4);
        }
        x.advance(3);
        x.arrive(16);
        Due.due("target(), one greater", x.target(), 11);
        x.setQuantile(93);
        Due.due("target(), the fifteenth of 16", x.target(), 8);
        x.setQuantile(94);
        Due.due("target(), the sixteenth of 16", x.target(), 11);
    }

    private static void targetForgetsWithTheWindow() {
        PlayoutBuffer x = sized(4);
        x.setQuantile(100);
        x.setMargin(1);
        x.arrive(200);
        x.advance(4);
        for (int k = 1; k <= 15; k++) {
            x.arrive(k);
            x.advance(4);
        }
        Due.due("transits()", x.transits(), 16);
        Due.due("target(), 200 in the window", x.target(), 800 + 1);
        x.arrive(16);
        Due.due("target(), 200 forgotten", x.target(), 1);
    }

    /** The target takes the transits as they are, also those below -999. */
    private static void targetIsNotCut() {
        PlayoutBuffer x = sized(16);
        x.setQuantile(100);
        x.setMargin(100);
        x.arrive(999);
        x.arrive(998);
        Due.due("transit(0)", x.transit(0), -999);
        Due.due("transit(1)", x.transit(1), -999);
        Due.due("target(), both below -999", x.target(), 116);
        for (int i = 0; i < 490; i++) {
            x.advance(500);
        }
        x.arrive(0);
        Due.due("target(), as far apart as can be", x.target(), 490 * 500 + 16 * 999 + 100);
    }
}
