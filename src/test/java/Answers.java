/** What two objects answer, for tests of what changes nothing: about 230 calls to each. */
final class Answers {
    private final String what;
    private final PlayoutBuffer x;
    private final PlayoutBuffer y;
    private int more;

    private Answers(String what, PlayoutBuffer x, PlayoutBuffer y, int more) {
        this.what = what;
        this.x = x;
        this.y = y;
        this.more = more;
    }

    /** Compares all that two objects tell, and then what they tell when they go on. The objects are used up by it. */
    static void same(String what, PlayoutBuffer x, PlayoutBuffer y) {
        sameBut(what, x, y, 0);
    }

    /** The same, where x is to have counted some duplicates more. */
    static void sameBut(String what, PlayoutBuffer x, PlayoutBuffer y, int duplicates) {
        Answers both = new Answers(what, x, y, duplicates);
        both.counters();
        both.output();
        both.frames();
        both.settings();
        both.text();
        both.future();
        both.slots();
    }

    private void due(String call, long got, long want) {
        Due.due(what + ": " + call, got, want);
    }

    /** Compares the checksums, in which 182 values follow the duplicates. */
    private void checksum(String call) {
        long want = more;
        for (int i = 0; i < 182; i++) {
            want *= 31;
        }
        due(call, x.checksum(), y.checksum() + want);
    }

    private void counters() {
        due("time()", x.time(), y.time());
        due("start()", x.start(), y.start());
        due("outputs()", x.outputs(), y.outputs());
        due("left()", x.left(), y.left());
        due("next()", x.next(), y.next());
        due("target()", x.target(), y.target());
        due("level()", x.level(), y.level());
        due("transits()", x.transits(), y.transits());
        for (int kind = 1; kind <= 3; kind++) {
            due("taken(" + kind + ")", x.taken(kind), y.taken(kind));
        }
        due("stretched()", x.stretched(), y.stretched());
        due("compressed()", x.compressed(), y.compressed());
        due("late()", x.late(), y.late());
        due("duplicates()", x.duplicates(), y.duplicates() + more);
        due("loss(false)", x.loss(false), y.loss(false));
        due("loss(true)", x.loss(true), y.loss(true));
        due("longestGap()", x.longestGap(), y.longestGap());
        due("scheduled()", x.scheduled(), y.scheduled());
        for (int i = 0; i < 16; i++) {
            due("transit(" + i + ")", x.transit(i), y.transit(i));
        }
    }

    private void output() {
        for (int back = 1; back <= 32; back++) {
            due("output(" + back + ")", x.output(back), y.output(back));
            due("kind(" + back + ")", x.kind(back), y.kind(back));
        }
        for (int back = 40; back <= 256; back += 24) {
            due("output(" + back + ")", x.output(back), y.output(back));
        }
    }

    private void frames() {
        for (int frame = 0; frame < 40; frame++) {
            due("state(" + frame + ")", x.state(frame), y.state(frame));
        }
        for (int frame = 990; frame <= 999; frame++) {
            due("state(" + frame + ")", x.state(frame), y.state(frame));
        }
        for (int block = 0; block < 3; block++) {
            due("unrestorable(" + block + ")", x.unrestorable(block), y.unrestorable(block));
            due("missing(true, " + block + ", 1)", x.missing(true, block, 1), y.missing(true, block, 1));
            due("missing(false, " + block + ", 0)", x.missing(false, block, 0), y.missing(false, block, 0));
        }
        for (int place = 3; place < 16; place++) {
            due("sample(1, " + place + ")", x.sample(1, place), y.sample(1, place));
        }
        due("paritySample(false, 1, 1, 2)", x.paritySample(false, 1, 1, 2), y.paritySample(false, 1, 1, 2));
    }

    private void settings() {
        due("setFrame(9)", x.setFrame(9), y.setFrame(9));
        due("setWave(9, 9)", x.setWave(9, 9), y.setWave(9, 9));
        due("setBlock(3, 3)", x.setBlock(3, 3), y.setBlock(3, 3));
        due("setInitialDelay(9)", x.setInitialDelay(9), y.setInitialDelay(9));
        due("setQuantile(60)", x.setQuantile(60), y.setQuantile(60));
        due("setMargin(14)", x.setMargin(14), y.setMargin(14));
        due("setAdapting(true)", x.setAdapting(true), y.setAdapting(true));
    }

    private void text() {
        due("faultPosition()", x.faultPosition(), y.faultPosition());
        due("schedule()", x.schedule(), y.schedule());
        due("scheduled()", x.scheduled(), y.scheduled());
        due("append(';')", x.append(';'), y.append(';'));
        due("faultPosition()", x.faultPosition(), y.faultPosition());
        due("clearText()", x.clearText(), y.clearText());
    }

    private void future() {
        due("ticksToGap()", x.ticksToGap(), y.ticksToGap());
        due("gapsIn(300)", x.gapsIn(300), y.gapsIn(300));
        due("ticksToFrame(30)", x.ticksToFrame(30), y.ticksToFrame(30));
        for (int i = 0; i < 8; i++) {
            due("advance(7)", x.advance(7), y.advance(7));
            due("arrive()", x.arrive(4 * i + 3), y.arrive(4 * i + 3));
            due("arriveParity()", x.arriveParity(true, i / 2, i % 3), y.arriveParity(true, i / 2, i % 3));
        }
        checksum("checksum()");
        for (int i = 0; i < 16; i++) {
            due("transit(" + i + "), later", x.transit(i), y.transit(i));
        }
        due("advance(150)", x.advance(150), y.advance(150));
        checksum("checksum()");
    }

    private void slots() {
        for (int slot = 0; slot < 2; slot++) {
            int time = y.restore(slot);
            due("restore(" + slot + ")", x.restore(slot), time);
            more = time >= 0 ? 0 : more;
            checksum("checksum() of slot " + slot);
            due("advance(40) of slot " + slot, x.advance(40), y.advance(40));
            checksum("checksum() of slot " + slot + ", later");
        }
    }
}
