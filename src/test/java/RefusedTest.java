import java.util.LinkedHashMap;
import java.util.Map;

/**
 * "a call that returns an error changes nothing": every refused call, at each stage of an object, against an object of
 * the same stage without the call. The same for what changes nothing though it is not refused.
 */
public final class RefusedTest {
    private interface Call {
        long on(PlayoutBuffer x);
    }

    public static void main(String[] args) {
        stagesAreWhatTheyAreFor();
        badValuesChangeNothing();
        settingsThatAreRefusedChangeNothing();
        frameThatWasTakenChangesNothing();
        emptySlotsChangeNothing();
        fullTextChangesNothing();
        refusedSchedulesChangeNothing();
        fullScheduleChangesNothing();
        questionsChangeNothing();
        Due.end();
    }

    private static void stagesAreWhatTheyAreFor() {
        PlayoutBuffer x = Stages.at("rich");
        long[] counts = {x.taken(1), x.taken(2), x.taken(3), x.compressed(), x.stretched(), x.late(), x.duplicates(),
            x.left(), x.scheduled(), x.longestGap() - 1};
        for (int i = 0; i < counts.length; i++) {
            Due.due("rich: count " + i + " is above 0", counts[i] > 0 ? 1 : 0, 1);
        }
        Due.due("rich: transits()", x.transits(), 16);
        Due.due("rich: kind(1)", x.kind(1), PlayoutBuffer.CONCEALED);
        PlayoutBuffer y = Stages.at("ended");
        Due.due("ended: next()", y.next(), PlayoutBuffer.NONE);
        Due.due("ended: left()", y.left(), 0);
        Due.due("ended: scheduled()", y.scheduled(), 1);
    }

    /** Makes the call on one of two objects that are alike. */
    private static void changesNothing(String what, PlayoutBuffer x, PlayoutBuffer y, Call call, long error) {
        Due.due(what, call.on(x), error);
        Answers.same("after " + what, x, y);
    }

    private static Map<String, Call> badValues() {
        Map<String, Call> calls = new LinkedHashMap<>();
        calls.put("setFrame(3)", x -> x.setFrame(3));
        calls.put("setFrame(17)", x -> x.setFrame(17));
        calls.put("setWave(1, 7)", x -> x.setWave(1, 7));
        calls.put("setWave(7, 201)", x -> x.setWave(7, 201));
        calls.put("setBlock(3, 1)", x -> x.setBlock(3, 1));
        calls.put("setBlock(7, 3)", x -> x.setBlock(7, 3));
        calls.put("setInitialDelay(-1)", x -> x.setInitialDelay(-1));
        calls.put("setInitialDelay(201)", x -> x.setInitialDelay(201));
        calls.put("setQuantile(0)", x -> x.setQuantile(0));
        calls.put("setQuantile(101)", x -> x.setQuantile(101));
        calls.put("setMargin(-1)", x -> x.setMargin(-1));
        calls.put("setMargin(101)", x -> x.setMargin(101));
        calls.put("arrive(-1)", x -> x.arrive(-1));
        calls.put("arrive(1000)", x -> x.arrive(1000));
        calls.put("arriveParity(true, 63, 0)", x -> x.arriveParity(true, 63, 0));
        calls.put("arriveParity(true, 0, 4)", x -> x.arriveParity(true, 0, 4));
        calls.put("arriveParity(false, 0, -1)", x -> x.arriveParity(false, 0, -1));
        calls.put("advance(0)", x -> x.advance(0));
        calls.put("advance(501)", x -> x.advance(501));
        calls.put("output(257)", x -> x.output(257));
        calls.put("kind(33)", x -> x.kind(33));
        calls.put("state(1000)", x -> x.state(1000));
        calls.put("sample(0, 16)", x -> x.sample(0, 16));
        calls.put("missing(true, 0, 4)", x -> x.missing(true, 0, 4));
        calls.put("unrestorable(63)", x -> x.unrestorable(63));
        calls.put("paritySample(true, 0, 0, -1)", x -> x.paritySample(true, 0, 0, -1));
        calls.put("transit(16)", x -> x.transit(16));
        calls.put("taken(4)", x -> x.taken(4));
        calls.put("gapsIn(1001)", x -> x.gapsIn(1001));
        calls.put("ticksToFrame(1000)", x -> x.ticksToFrame(1000));
        calls.put("append(31)", x -> x.append(31));
        calls.put("append(127)", x -> x.append(127));
        calls.put("keep(2)", x -> x.keep(2));
        calls.put("keep(-1)", x -> x.keep(-1));
        calls.put("restore(2)", x -> x.restore(2));
        calls.put("restore(-1)", x -> x.restore(-1));
        return calls;
    }

    private static void badValuesChangeNothing() {
        badValues().forEach((name, call) -> {
            for (String stage : Stages.NAMES) {
                changesNothing(name + ", " + stage, Stages.at(stage), Stages.at(stage), call, PlayoutBuffer.BAD_VALUE);
            }
        });
    }

    private static void settingsThatAreRefusedChangeNothing() {
        Map<String, Call> calls = new LinkedHashMap<>();
        calls.put("setFrame(6)", x -> x.setFrame(6));
        calls.put("setWave(7, 7)", x -> x.setWave(7, 7));
        calls.put("setBlock(2, 5)", x -> x.setBlock(2, 5));
        calls.put("setInitialDelay(100)", x -> x.setInitialDelay(100));
        calls.forEach((name, call) -> {
            for (String stage : new String[] {"scheduled", "begun", "rich", "ended"}) {
                changesNothing(name + ", " + stage, Stages.at(stage), Stages.at(stage), call,
                        PlayoutBuffer.NOT_POSSIBLE);
            }
        });
    }

    private static void frameThatWasTakenChangesNothing() {
        for (String stage : new String[] {"rich", "ended"}) {
            changesNothing("ticksToFrame(0), " + stage, Stages.at(stage), Stages.at(stage), x -> x.ticksToFrame(0),
                    PlayoutBuffer.NOT_POSSIBLE);
        }
    }

    private static void emptySlotsChangeNothing() {
        for (int slot = 0; slot < 2; slot++) {
            int empty = slot;
            for (String stage : new String[] {"new", "scheduled", "begun"}) {
                changesNothing("restore(" + slot + "), " + stage, Stages.at(stage), Stages.at(stage),
                        x -> x.restore(empty), PlayoutBuffer.NOT_POSSIBLE);
            }
        }
    }

    private static void fullTextChangesNothing() {
        for (String stage : Stages.NAMES) {
            PlayoutBuffer[] two = {Stages.at(stage), Stages.at(stage)};
            for (PlayoutBuffer x : two) {
                x.clearText();
                Due.type(x, "d0009@9998;".repeat(8) + "r0001.0001@9999;".repeat(2));
            }
            changesNothing("append('7'), full, " + stage, two[0], two[1], x -> x.append('7'), PlayoutBuffer.FULL);
        }
    }

    /** The arrivals before the one that is refused are not scheduled, either. */
    private static void refusedSchedulesChangeNothing() {
        String[] faults = {"d", "d7@9999", "d7@9999;d8@9999;x", "d7@9999;r1;d8@9999;"};
        String[] bad = {"d7@9999;d1000@9999;", "d7@9999;r63.0@9999;d8@9999;", "r0.0@9999;c0.4@9999;", "d7@9999;d8@0;"};
        for (String stage : Stages.NAMES) {
            for (String text : faults) {
                refusedSchedule(stage, text, PlayoutBuffer.NOT_POSSIBLE);
            }
            for (String text : bad) {
                refusedSchedule(stage, text, PlayoutBuffer.BAD_VALUE);
            }
        }
    }

    private static void refusedSchedule(String stage, String text, int error) {
        PlayoutBuffer[] two = {Stages.at(stage), Stages.at(stage)};
        for (PlayoutBuffer x : two) {
            x.clearText();
            Due.type(x, text);
        }
        changesNothing("schedule() of " + text + ", " + stage, two[0], two[1], x -> x.schedule(), error);
    }

    private static void fullScheduleChangesNothing() {
        for (String stage : Stages.NAMES) {
            PlayoutBuffer[] two = {Stages.at(stage), Stages.at(stage)};
            for (PlayoutBuffer x : two) {
                Due.schedule(x, "d50@9999;d51@9999;d52@9999;d53@9999;d54@9999;d55@9999;d56@9999;d57@9999;d58@9999;");
                x.schedule();
                x.clearText();
                // room for some of them is not room for all
                Due.type(x, "d6@9999;d7@9999;d8@9999;d9@9999;d6@9999;d7@9999;d8@9999;");
            }
            changesNothing("schedule(), full, " + stage, two[0], two[1], x -> x.schedule(), PlayoutBuffer.FULL);
        }
    }

    private static void questionsChangeNothing() {
        Map<String, Call> calls = new LinkedHashMap<>();
        calls.put("unrestorable(0)", x -> x.unrestorable(0));
        calls.put("unrestorable(62)", x -> x.unrestorable(62));
        calls.put("missing(true, 0, 0)", x -> x.missing(true, 0, 0));
        calls.put("paritySample(true, 1, 1, 1)", x -> x.paritySample(true, 1, 1, 1));
        calls.put("ticksToGap()", x -> x.ticksToGap());
        calls.put("gapsIn(1)", x -> x.gapsIn(1));
        calls.put("gapsIn(1000)", x -> x.gapsIn(1000));
        calls.put("ticksToFrame(60)", x -> x.ticksToFrame(60));
        calls.put("ticksToFrame(999)", x -> x.ticksToFrame(999));
        calls.put("faultPosition()", x -> x.faultPosition());
        calls.put("loss(true)", x -> x.loss(true));
        calls.put("checksum()", x -> x.checksum());
        calls.forEach((name, call) -> {
            for (String stage : Stages.NAMES) {
                PlayoutBuffer x = Stages.at(stage);
                long answer = call.on(x);
                Due.due(name + ", asked again, " + stage, call.on(x), answer);
                Answers.same("after " + name + ", " + stage, x, Stages.at(stage));
            }
        });
    }
}
