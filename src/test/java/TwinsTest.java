/** Objects that are used at the same time: each answers as if it were alone, and the same calls answer the same. */
public final class TwinsTest {
    private static final int STEPS = 12;

    public static void main(String[] args) {
        for (String first : Stages.NAMES) {
            for (String second : Stages.NAMES) {
                together(first, second);
            }
        }
        aNewOneBesideOldOnes();
        slotsAreOfOneObject();
        textsAreOfOneObject();
        manyAtOnce();
        Due.end();
    }

    /** Two objects that take turns, compared with two that are used one after the other. */
    private static void together(String first, String second) {
        PlayoutBuffer a = Stages.at(first);
        PlayoutBuffer b = Stages.at(second);
        for (int i = 0; i < STEPS; i++) {
            step(a, i);
            step(b, i + 5);
        }
        PlayoutBuffer alone = Stages.at(first);
        for (int i = 0; i < STEPS; i++) {
            step(alone, i);
        }
        Answers.same(first + " beside " + second, a, alone);
        PlayoutBuffer other = Stages.at(second);
        for (int i = 0; i < STEPS; i++) {
            step(other, i + 5);
        }
        Answers.same(second + " beside " + first, b, other);
    }

    private static void step(PlayoutBuffer x, int i) {
        x.arrive(7 * i + 1);
        x.advance(i + 1);
        x.arriveParity(i % 2 == 0, i / 3, i % 4);
        switch (i % 6) {
            case 0 -> x.setMargin(3 * i);
            case 1 -> x.keep(i % 4 / 2);
            case 2 -> Due.schedule(x, "d" + (9 * i) + "@" + (x.time() + 4) + ";");
            case 3 -> x.gapsIn(50 + i);
            case 4 -> x.append('d');
            default -> x.ticksToFrame(20 * i);
        }
    }

    /** Promise 1: "Creates a receiver to which nothing has arrived, with all settings as at first". */
    private static void aNewOneBesideOldOnes() {
        for (String stage : Stages.NAMES) {
            PlayoutBuffer old = Stages.at(stage);
            PlayoutBuffer x = new PlayoutBuffer();
            old.ticksToGap();
            old.arrive(5);
            old.faultPosition();
            Due.due("time() beside " + stage, x.time(), 0);
            Due.due("start() beside " + stage, x.start(), PlayoutBuffer.NONE);
            Due.due("state(5) beside " + stage, x.state(5), 0);
            Due.due("transits() beside " + stage, x.transits(), 0);
            Due.due("scheduled() beside " + stage, x.scheduled(), 0);
            Due.due("clearText() beside " + stage, x.clearText(), 0);
            Due.due("restore(0) beside " + stage, x.restore(0), PlayoutBuffer.NOT_POSSIBLE);
            Due.due("restore(1) beside " + stage, x.restore(1), PlayoutBuffer.NOT_POSSIBLE);
            Due.due("setFrame(5) beside " + stage, x.setFrame(5), 8);
            Due.due("setWave(5, 6) beside " + stage, x.setWave(5, 6), 16025);
            Due.due("setBlock(2, 3) beside " + stage, x.setBlock(2, 3), 44);
            Due.due("setInitialDelay(5) beside " + stage, x.setInitialDelay(5), 16);
            Due.due("setQuantile(5) beside " + stage, x.setQuantile(5), 90);
            Due.due("setMargin(5) beside " + stage, x.setMargin(5), 8);
            Due.due("setAdapting(false) beside " + stage, x.setAdapting(false), 1);
        }
    }

    /** "empty slots": what one object keeps, another one does not restore. */
    private static void slotsAreOfOneObject() {
        PlayoutBuffer a = new PlayoutBuffer();
        PlayoutBuffer b = new PlayoutBuffer();
        a.arrive(3);
        a.advance(30);
        a.keep(0);
        Due.due("restore(0) of the other", b.restore(0), PlayoutBuffer.NOT_POSSIBLE);
        b.advance(9);
        b.keep(0);
        a.advance(5);
        Due.due("restore(0)", a.restore(0), 30);
        Due.due("state(3)", a.state(3), 2);
        Due.due("restore(0) of the other", b.restore(0), 9);
        Due.due("state(3) of the other", b.state(3), 0);
    }

    /** "an empty text buffer, an empty schedule": each object has its own. */
    private static void textsAreOfOneObject() {
        PlayoutBuffer a = new PlayoutBuffer();
        PlayoutBuffer b = new PlayoutBuffer();
        String text = "d7@9;r2.1@8;";
        for (int i = 0; i < text.length(); i++) {
            Due.due("append, of the one", a.append(text.charAt(i)), i + 1);
            Due.due("append, of the other", b.append('d'), i + 1);
        }
        Due.due("faultPosition() of the other", b.faultPosition(), 1);
        Due.due("faultPosition()", a.faultPosition(), PlayoutBuffer.NONE);
        Due.due("schedule() of the other", b.schedule(), PlayoutBuffer.NOT_POSSIBLE);
        Due.due("schedule()", a.schedule(), 2);
        Due.due("scheduled() of the other", b.scheduled(), 0);
        b.advance(10);
        Due.due("start() of the other", b.start(), PlayoutBuffer.NONE);
        a.advance(10);
        Due.due("start()", a.start(), 24);
    }

    /** Ten objects, each with other samples, take their ticks in turn. */
    private static void manyAtOnce() {
        PlayoutBuffer[] all = new PlayoutBuffer[10];
        for (int i = 0; i < all.length; i++) {
            all[i] = new PlayoutBuffer();
            all[i].setFrame(4 + i);
            all[i].setWave(2 + 3 * i, 1 + 19 * i);
            all[i].setInitialDelay(i);
            all[i].setAdapting(false);
            Due.arrive(all[i], 0, 9);
        }
        for (int tick = 0; tick < 40; tick++) {
            for (int i = 0; i < all.length; i++) {
                PlayoutBuffer x = all[i];
                Due.due("advance(1) of " + i + " at " + tick, x.advance(1), tick >= i ? 1 : 0);
                if (tick >= i) {
                    int place = tick - i;
                    Due.due("output(1) of " + i + " at " + tick, x.output(1), x.sample(place / (4 + i), place % (4 + i)));
                }
            }
        }
    }
}
