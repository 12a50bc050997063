/** What the tests share: comparing answers with those that are due, and common steps. */
final class Due {
    private static int calls = 0;
    private static int wrong = 0;

    private Due() {
    }

    /** Compares an answer with the one that is due; what names the promise and the call. */
    static void due(String what, long got, long want) {
        calls++;
        if (got != want) {
            wrong++;
            System.out.println(what + " answered " + got + ", due is " + want);
        }
    }

    /** Ends a test: with exit code 1 if an answer was wrong, or none was compared. */
    static void end() {
        System.out.println(calls + " answers compared, " + wrong + " wrong");
        if (wrong != 0 || calls == 0) {
            System.exit(1);
        }
    }

    static void type(PlayoutBuffer x, String text) {
        for (int i = 0; i < text.length(); i++) {
            x.append(text.charAt(i));
        }
    }

    /** Replaces the text and schedules its arrivals. */
    static int schedule(PlayoutBuffer x, String text) {
        x.clearText();
        type(x, text);
        return x.schedule();
    }

    static void arrive(PlayoutBuffer x, int first, int last) {
        for (int frame = first; frame <= last; frame++) {
            x.arrive(frame);
        }
    }

    /** Lets many ticks pass, by calls of at most 500. */
    static void pass(PlayoutBuffer x, int ticks) {
        for (int rest = ticks; rest > 0; rest -= 500) {
            x.advance(Math.min(500, rest));
        }
    }

    /** Compares the latest outputs, given in the order in which they were output. */
    static void outputs(String what, PlayoutBuffer x, int... samples) {
        for (int i = 0; i < samples.length; i++) {
            due(what + ": sample " + i + " of " + samples.length, x.output(samples.length - i), samples[i]);
        }
    }
}
