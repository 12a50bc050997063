import java.util.Random;

/**
 * All promises: long runs of calls, the same ones each time, on the program and on the model of the document; each
 * answer is compared. A run has at most 512 calls.
 */
public final class ModelTest {
    private static final int RUNS = 600;
    private static final int CALLS = 512;
    // a text: clearing it, three entries of 15 characters, and what follows
    private static final int MOST_CALLS_OF_A_STEP = 60;

    private final Random random;
    private final PlayoutBuffer x = new PlayoutBuffer();
    private final Model m = new Model();
    private final int run;
    private final int loss;
    private final int jitter;
    private int columns = 4;
    private int rows = 4;
    private int samples = 8;
    private int sent = 0;
    private int calls = 0;

    private ModelTest(int run) {
        this.run = run;
        random = new Random(run);
        loss = random.nextInt(60);
        jitter = 1 + random.nextInt(12);
    }

    public static void main(String[] args) {
        for (int run = 0; run < RUNS; run++) {
            new ModelTest(run).go();
        }
        Due.end();
    }

    private void go() {
        int settings = random.nextInt(12);
        for (int i = 0; i < settings; i++) {
            set();
        }
        // some runs begin near the end of the stream, or play long ahead of what arrives
        while (calls < CALLS - MOST_CALLS_OF_A_STEP) {
            int choice = random.nextInt(100);
            if (choice < 45) {
                arriveSome();
            } else if (choice < 65) {
                pass();
            } else if (choice < 90) {
                ask();
            } else if (choice < 96) {
                text();
            } else {
                rare();
            }
        }
        // what is asked takes two calls at most
        while (calls < CALLS - 2) {
            ask();
        }
        due("checksum()", x.checksum(), m.checksum());
    }

    private void due(String call, long got, long want) {
        calls++;
        Due.due("run " + run + ": " + call, got, want);
    }

    /** A number from low to high, seldom one outside. */
    private int about(int low, int high) {
        int dice = random.nextInt(24);
        if (dice == 0) return low - 1 - random.nextInt(3);
        if (dice == 1) return high + 1 + random.nextInt(3);
        if (dice == 2) return low;
        if (dice == 3) return high;
        if (dice == 4 && random.nextInt(6) == 0) return random.nextInt();
        return low + random.nextInt(high - low + 1);
    }

    private void set() {
        switch (random.nextInt(7)) {
            case 0 -> {
                int n = about(4, 16);
                due("setFrame", x.setFrame(n), m.setFrame(n));
                samples = Math.max(4, Math.min(16, n));
            }
            case 1 -> {
                int p = about(2, 32);
                int s = about(1, 200);
                due("setWave", x.setWave(p, s), m.setWave(p, s));
            }
            case 2 -> {
                int c = about(2, 6);
                int r = about(2, 6);
                int got = x.setBlock(c, r);
                due("setBlock", got, m.setBlock(c, r));
                if (got > 0) {
                    columns = c;
                    rows = r;
                }
            }
            case 3 -> {
                int t = random.nextInt(3) == 0 ? about(0, 200) : random.nextInt(30);
                due("setInitialDelay", x.setInitialDelay(t), m.setInitialDelay(t));
            }
            case 4 -> {
                int q = about(1, 100);
                due("setQuantile", x.setQuantile(q), m.setQuantile(q));
            }
            case 5 -> {
                int g = random.nextInt(2) == 0 ? about(0, 100) : random.nextInt(20);
                due("setMargin", x.setMargin(g), m.setMargin(g));
            }
            default -> {
                boolean on = random.nextInt(4) != 0;
                due("setAdapting", x.setAdapting(on), m.setAdapting(on));
            }
        }
    }

    private void arriveSome() {
        int dice = random.nextInt(10);
        int cells = columns * rows;
        if (dice < 6) {
            // the stream as it is sent: some frames are lost, some come out of order
            while (random.nextInt(100) < loss) {
                sent++;
            }
            arrive(sent + random.nextInt(jitter) - jitter / 2);
            sent++;
        } else if (dice < 9) {
            boolean row = random.nextBoolean();
            int block = random.nextInt(8) == 0 ? about(0, 999 / cells) : Math.max(0, sent / cells - random.nextInt(2));
            int index = about(0, (row ? rows : columns) - 1);
            due("arriveParity(" + row + ", " + block + ", " + index + ")",
                    x.arriveParity(row, block, index), m.arriveParity(row, block, index));
        } else if (run % 3 == 0) {
            arrive(about(960, 999));
        } else {
            arrive(about(0, sent + 3));
        }
    }

    private void arrive(int frame) {
        due("arrive(" + frame + ")", x.arrive(frame), m.arrive(frame));
    }

    private void pass() {
        int dice = random.nextInt(20);
        int ticks = dice == 0 ? about(1, 500) : 1 + random.nextInt(dice < 10 ? 3 : 2 * samples);
        if (run % 10 == 7 && dice < 4) {
            ticks = 500;
        }
        due("advance(" + ticks + ")", x.advance(ticks), m.advance(ticks));
    }

    private void rare() {
        int slot = about(0, 1);
        switch (random.nextInt(8)) {
            case 0, 1 -> due("keep", x.keep(slot), m.keep(slot));
            case 2 -> due("restore", x.restore(slot), m.restore(slot));
            case 3 -> due("checksum()", x.checksum(), m.checksum());
            default -> set();
        }
    }

    private void text() {
        if (random.nextInt(3) != 0) {
            due("clearText()", x.clearText(), m.clearText());
        }
        int entries = random.nextInt(4);
        for (int i = 0; i < entries; i++) {
            type(entry());
        }
        if (random.nextInt(5) == 0) {
            type("" + (char) about(32, 126));
        }
        due("faultPosition()", x.faultPosition(), m.faultPosition());
        due("schedule()", x.schedule(), m.schedule());
        due("scheduled()", x.scheduled(), m.scheduled());
    }

    private String entry() {
        int at = m.time() + about(1, 40);
        String end = "@" + Math.max(0, at) + ";";
        if (random.nextInt(25) == 0) {
            end = "@" + random.nextInt(12000) + ";";
        }
        String entry;
        if (random.nextInt(3) != 0) {
            entry = "d" + Math.max(0, random.nextInt(20) == 0 ? about(0, 999) : sent + random.nextInt(4)) + end;
        } else {
            boolean row = random.nextBoolean();
            int block = random.nextInt(12) == 0 ? about(0, 999 / (columns * rows)) : sent / (columns * rows);
            entry = (row ? "r" : "c") + Math.max(0, block) + "." + Math.max(0, about(0, (row ? rows : columns) - 1)) + end;
        }
        if (random.nextInt(30) == 0) {
            int hole = random.nextInt(entry.length());
            return entry.substring(0, hole) + entry.substring(hole + 1);
        }
        return entry;
    }

    private void type(String text) {
        for (int i = 0; i < text.length(); i++) {
            int c = text.charAt(i);
            due("append(" + c + ")", x.append(c), m.append(c));
        }
    }

    private void ask() {
        boolean row = random.nextBoolean();
        int block = random.nextInt(3) == 0 ? about(0, 999 / (columns * rows)) : sent / (columns * rows);
        int index = about(0, (row ? rows : columns) - 1);
        int near = Math.max(0, m.next()) + random.nextInt(12) - 4;
        switch (random.nextInt(28)) {
            case 0 -> due("time()", x.time(), m.time());
            case 1 -> due("start()", x.start(), m.start());
            case 2, 3, 4 -> {
                int back = about(1, 256);
                due("output(" + back + ")", x.output(back), m.output(back));
            }
            case 5 -> due("outputs()", x.outputs(), m.outputs());
            case 6 -> due("left()", x.left(), m.left());
            case 7 -> due("next()", x.next(), m.next());
            case 8 -> {
                int back = about(1, 32);
                due("kind(" + back + ")", x.kind(back), m.kind(back));
            }
            case 9 -> {
                int frame = about(0, 999);
                due("state(" + frame + ")", x.state(frame), m.state(frame));
            }
            case 10 -> {
                int frame = about(0, 999);
                int place = about(0, samples - 1);
                due("sample(" + frame + ", " + place + ")", x.sample(frame, place), m.sample(frame, place));
            }
            case 11 -> due("missing", x.missing(row, block, index), m.missing(row, block, index));
            case 12 -> due("unrestorable(" + block + ")", x.unrestorable(block), m.unrestorable(block));
            case 13 -> {
                int place = about(0, samples - 1);
                due("paritySample", x.paritySample(row, block, index, place), m.paritySample(row, block, index, place));
            }
            case 14 -> due("transits()", x.transits(), m.transits());
            case 15, 16 -> {
                int i = about(0, Math.max(0, m.transits() - 1));
                due("transit(" + i + ")", x.transit(i), m.transit(i));
            }
            case 17 -> due("target()", x.target(), m.target());
            case 18 -> due("level()", x.level(), m.level());
            case 19 -> {
                int kind = about(1, 3);
                due("taken(" + kind + ")", x.taken(kind), m.taken(kind));
            }
            case 20 -> {
                due("stretched()", x.stretched(), m.stretched());
                due("compressed()", x.compressed(), m.compressed());
            }
            case 21 -> {
                due("late()", x.late(), m.late());
                due("duplicates()", x.duplicates(), m.duplicates());
            }
            case 22 -> {
                due("loss(false)", x.loss(false), m.loss(false));
                due("loss(true)", x.loss(true), m.loss(true));
            }
            case 23 -> due("longestGap()", x.longestGap(), m.longestGap());
            case 24 -> due("ticksToGap()", x.ticksToGap(), m.ticksToGap());
            case 25 -> {
                int ticks = about(1, 1000);
                due("gapsIn(" + ticks + ")", x.gapsIn(ticks), m.gapsIn(ticks));
            }
            case 26 -> due("ticksToFrame(" + near + ")", x.ticksToFrame(near), m.ticksToFrame(near));
            default -> {
                int frame = about(0, 999);
                due("ticksToFrame(" + frame + ")", x.ticksToFrame(frame), m.ticksToFrame(frame));
            }
        }
    }
}
