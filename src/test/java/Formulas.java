/** What the document says of samples, for tests: waves, lags, and compressed, stretched and concealed frames. */
final class Formulas {
    private Formulas() {
    }

    /** "wave(i) is (slope * (i modulo period)) modulo 201, minus 100" */
    static int wave(int period, int slope, int i) {
        return slope * (i % period) % 201 - 100;
    }

    static int[] samples(int n, int period, int slope, int frame) {
        int[] x = new int[n];
        for (int j = 0; j < n; j++) {
            x[j] = wave(period, slope, frame * n + j);
        }
        return x;
    }

    /** The p from 2 to a longest one with the smallest quotient (as an exact fraction), of several the smallest one. */
    static int exactLag(int[] x, int longest) {
        int best = 2;
        for (int p = 3; p <= longest; p++) {
            if (sum(x, p) * best < sum(x, best) * p) {
                best = p;
            }
        }
        return best;
    }

    /** The same with quotients that are truncated towards 0, as all are that the document does not except. */
    static int truncatedLag(int[] x, int longest) {
        int best = 2;
        for (int p = 3; p <= longest; p++) {
            if (sum(x, p) / p < sum(x, best) / best) {
                best = p;
            }
        }
        return best;
    }

    private static long sum(int[] x, int p) {
        long sum = 0;
        for (int i = 0; i < p; i++) {
            sum += Math.abs(x[i] - x[i + p]);
        }
        return sum;
    }

    /** "y(0) to y(p - 1), and then x(2 * p) to x(N - 1), where y(i) = (x(i) * (p - i) + x(i + p) * i) / p" */
    static int[] compressed(int[] x) {
        int p = exactLag(x, x.length / 2);
        int[] y = new int[x.length - p];
        for (int i = 0; i < y.length; i++) {
            y[i] = i < p ? (x[i] * (p - i) + x[i + p] * i) / p : x[i + p];
        }
        return y;
    }

    /** "x(0) to x(p - 1), then z(0) to z(p - 1), and then x(p) to x(N - 1), where z(i) = (x(i + p) * (p - i) + x(i) * i) / p" */
    static int[] stretched(int[] x) {
        int p = exactLag(x, x.length / 2);
        int[] y = new int[x.length + p];
        for (int i = 0; i < y.length; i++) {
            if (i < p) {
                y[i] = x[i];
            } else if (i < 2 * p) {
                y[i] = (x[i] * (2 * p - i) + x[i - p] * (i - p)) / p;
            } else {
                y[i] = x[i - p];
            }
        }
        return y;
    }

    /** The lag of a concealed frame, where o holds the samples that were output, the last one first. */
    static int concealedLag(int[] o) {
        return truncatedLag(o, Math.min(16, o.length / 2));
    }

    /** "Sample j of the frame is o(p - (j modulo p)), times 3, divided by 4, and this as often as .." */
    static int[] concealed(int[] o, int n, int succession) {
        int[] y = new int[n];
        if (o.length < 4) {
            return y;
        }
        int p = concealedLag(o);
        for (int j = 0; j < n; j++) {
            y[j] = o[p - j % p - 1];
            for (int i = 0; i < succession; i++) {
                y[j] = y[j] * 3 / 4;
            }
        }
        return y;
    }
}
