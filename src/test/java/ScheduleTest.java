/** The schedule: what can be scheduled, how much of it, and when it leaves. */
public final class ScheduleTest {
    private static final int BAD = PlayoutBuffer.BAD_VALUE;

    public static void main(String[] args) {
        framesUpToTheLast();
        packetsOfAllShapes();
        timesAfterThePresent();
        timesThatAllHavePassed();
        oneBadArrivalIsEnough();
        atMostTwentyFour();
        roomIsFreeAgain();
        allAtOneTime();
        theTextStays();
        numberOfArrivals();
        nothingIsScheduledWithoutText();
        settingsWhileSomethingIsScheduled();
        Due.end();
    }

    private static void one(PlayoutBuffer x, String text, int want) {
        int before = x.scheduled();
        Due.due("41: schedule() of " + text, Due.schedule(x, text), want);
        Due.due("42: scheduled() after " + text, x.scheduled(), before + Math.max(0, want));
    }

    /** "BAD_VALUE if one of them names a frame above 999" */
    private static void framesUpToTheLast() {
        for (int k : new int[] {0, 1, 998, 999}) {
            one(new PlayoutBuffer(), "d" + k + "@9;", 1);
        }
        for (int k : new int[] {1000, 1001, 1999, 9999}) {
            one(new PlayoutBuffer(), "d" + k + "@9;", BAD);
        }
        // also where the last block has frames above 999
        PlayoutBuffer x = new PlayoutBuffer();
        x.setBlock(6, 6);
        one(x, "d1000@9;", BAD);
        one(x, "d1007@9;", BAD);
        one(x, "d999@9;", 1);
    }

    /** "a block or row or column that does not exist" */
    private static void packetsOfAllShapes() {
        for (int c = 2; c <= 6; c++) {
            for (int r = 2; r <= 6; r++) {
                PlayoutBuffer x = new PlayoutBuffer();
                x.setBlock(c, r);
                int last = 999 / (c * r);
                one(x, "r" + (last + 1) + ".0@9;", BAD);
                one(x, "c" + (last + 1) + ".0@9;", BAD);
                one(x, "r0." + r + "@9;", BAD);
                one(x, "c0." + c + "@9;", BAD);
                one(x, "r" + last + "." + r + "@9;", BAD);
                one(x, "c" + last + "." + c + "@9;", BAD);
                one(x, "r9999.0@9;", BAD);
                one(x, "c0.9999@9;", BAD);
                one(x, "r" + last + "." + (r - 1) + "@9;", 1);
                one(x, "c" + last + "." + (c - 1) + "@9;", 1);
                one(x, "r0." + (r - 1) + "@9;", 1);
                one(x, "c0." + (c - 1) + "@9;", 1);
                one(x, "r0.0@9;c0.0@9;", 2);
                x.advance(10);
                Due.due("the packet of the last row came", x.arriveParity(true, last, r - 1), 0);
                Due.due("the packet of the last column came", x.arriveParity(false, last, c - 1), 0);
                Due.due("duplicates()", x.duplicates(), 2);
            }
        }
    }

    /** "or a time that is not after the present time" */
    private static void timesAfterThePresent() {
        for (int time : new int[] {0, 1, 2, 500}) {
            PlayoutBuffer x = new PlayoutBuffer();
            if (time > 0) {
                x.advance(time);
            }
            for (String entry : new String[] {"d7@", "r0.0@", "c0.0@"}) {
                one(x, entry + "0;", BAD);
                one(x, entry + Math.max(0, time - 1) + ";", BAD);
                one(x, entry + time + ";", BAD);
                one(x, entry + (time + 1) + ";", 1);
                one(x, entry + "9999;", 1);
            }
        }
    }

    /** The greatest time of a text is 9999: then nothing can be scheduled any more. */
    private static void timesThatAllHavePassed() {
        PlayoutBuffer x = new PlayoutBuffer();
        Due.pass(x, 9998);
        one(x, "d7@9998;", BAD);
        one(x, "d7@9999;", 1);
        x.advance(1);
        Due.due("42: scheduled(), before its tick", x.scheduled(), 1);
        one(x, "d8@9999;", BAD);
        x.advance(1);
        Due.due("42: scheduled(), after its tick", x.scheduled(), 0);
        Due.due("state(7)", x.state(7), 2);
        one(x, "d8@9999;", BAD);
        one(x, "", 0);
    }

    /** "if one of them names ..": the first, the last, or one between; and none of them is scheduled then. */
    private static void oneBadArrivalIsEnough() {
        String good = "d1@9;r0.0@9;c0.0@9;";
        for (String bad : new String[] {"d1000@9;", "r63.0@9;", "c63.0@9;", "r0.4@9;", "c0.4@9;", "d1@0;"}) {
            one(new PlayoutBuffer(), bad + good, BAD);
            one(new PlayoutBuffer(), good + bad, BAD);
            one(new PlayoutBuffer(), good + bad + good, BAD);
            one(new PlayoutBuffer(), bad + bad, BAD);
        }
        one(new PlayoutBuffer(), good + good, 6);
    }

    /** "at most 24", "FULL if the schedule would have more than 24 arrivals": every number onto every number. */
    private static void atMostTwentyFour() {
        for (int first = 0; first <= 24; first++) {
            for (int more = 0; more <= 24; more++) {
                PlayoutBuffer x = new PlayoutBuffer();
                one(x, "d1@9;".repeat(first), first);
                one(x, "d2@8;".repeat(more), first + more > 24 ? PlayoutBuffer.FULL : more);
            }
        }
    }

    private static void roomIsFreeAgain() {
        PlayoutBuffer x = new PlayoutBuffer();
        one(x, "d1@5;d2@6;d3@7;d4@8;".repeat(6), 24);
        one(x, "d9@9;", PlayoutBuffer.FULL);
        x.advance(5);
        one(x, "d9@9;", PlayoutBuffer.FULL);
        x.advance(1);
        Due.due("42: scheduled(), six have arrived", x.scheduled(), 18);
        one(x, "d9@9;".repeat(7), PlayoutBuffer.FULL);
        one(x, "d9@9;".repeat(6), 6);
        one(x, "d9@9;", PlayoutBuffer.FULL);
        x.advance(4);
        Due.due("42: scheduled(), all have arrived", x.scheduled(), 0);
        Due.due("duplicates()", x.duplicates(), 5 * 5);
        Due.due("transits()", x.transits(), 5);
        one(x, "d11@11;".repeat(17), 17);
        one(x, "d11@11;".repeat(7), 7);
    }

    /** All 24 arrive in one tick, in their order. */
    private static void allAtOneTime() {
        PlayoutBuffer x = new PlayoutBuffer();
        StringBuilder text = new StringBuilder();
        for (int k = 23; k >= 4; k--) {
            text.append('d').append(k).append("@1;");
        }
        one(x, text.toString(), 20);
        one(x, "d3@1;d2@1;d1@1;d0@1;", 4);
        x.advance(1);
        Due.due("42: scheduled(), in the tick of 1", x.scheduled(), 24);
        x.advance(1);
        Due.due("42: scheduled()", x.scheduled(), 0);
        for (int k = 0; k < 24; k++) {
            Due.due("state(" + k + ")", x.state(k), 2);
        }
        // the latest 16 are 15 to 0
        Due.due("transit(0)", x.transit(0), 1 - 15 * 8);
        Due.due("transit(15)", x.transit(15), 1);
    }

    /** "The text stays." */
    private static void theTextStays() {
        PlayoutBuffer x = new PlayoutBuffer();
        one(x, "d7@5;", 1);
        Due.due("41: schedule() again", x.schedule(), 1);
        Due.due("42: scheduled()", x.scheduled(), 2);
        Due.due("40: faultPosition()", x.faultPosition(), PlayoutBuffer.NONE);
        x.advance(5);
        Due.due("41: schedule() again, its time has come", x.schedule(), BAD);
        Due.due("38: append()", x.append('d'), 6);
        Due.due("41: schedule(), a fault now", x.schedule(), PlayoutBuffer.NOT_POSSIBLE);
        Due.due("39: clearText()", x.clearText(), 6);
        Due.due("42: scheduled(), the text is gone", x.scheduled(), 2);
    }

    /** "Returns the number of arrivals of the text", not that of the schedule. */
    private static void numberOfArrivals() {
        PlayoutBuffer x = new PlayoutBuffer();
        one(x, "d1@9;d1@9;d1@9;", 3);
        one(x, "r0.0@9;", 1);
        one(x, "", 0);
        one(x, "c0.0@9;d2@9;", 2);
        Due.due("42: scheduled()", x.scheduled(), 6);
    }

    private static void nothingIsScheduledWithoutText() {
        PlayoutBuffer x = new PlayoutBuffer();
        Due.due("41: schedule()", x.schedule(), 0);
        x.advance(500);
        Due.due("start()", x.start(), PlayoutBuffer.NONE);
        // full, and nothing more: that is no more than 24
        PlayoutBuffer y = new PlayoutBuffer();
        one(y, "d1@9;".repeat(24), 24);
        one(y, "", 0);
    }

    /** "NOT_POSSIBLE if something has arrived, or is scheduled": from the first arrival that is scheduled on. */
    private static void settingsWhileSomethingIsScheduled() {
        PlayoutBuffer x = new PlayoutBuffer();
        Due.type(x, "d1@5;");
        Due.due("2: setFrame(7), a text alone", x.setFrame(7), 8);
        x.schedule();
        Due.due("2: setFrame(9)", x.setFrame(9), PlayoutBuffer.NOT_POSSIBLE);
        Due.due("3: setWave(9, 9)", x.setWave(9, 9), PlayoutBuffer.NOT_POSSIBLE);
        Due.due("4: setBlock(3, 3)", x.setBlock(3, 3), PlayoutBuffer.NOT_POSSIBLE);
        Due.due("5: setInitialDelay(9)", x.setInitialDelay(9), PlayoutBuffer.NOT_POSSIBLE);
        Due.due("6: setQuantile(9)", x.setQuantile(9), 90);
        Due.due("7: setMargin(9)", x.setMargin(9), 8);
        Due.due("8: setAdapting(false)", x.setAdapting(false), 1);
        x.advance(6);
        Due.due("42: scheduled()", x.scheduled(), 0);
        Due.due("2: setFrame(9), it has arrived", x.setFrame(9), PlayoutBuffer.NOT_POSSIBLE);
        Due.due("3: setWave(9, 9), it has arrived", x.setWave(9, 9), PlayoutBuffer.NOT_POSSIBLE);
        Due.due("4: setBlock(3, 3), it has arrived", x.setBlock(3, 3), PlayoutBuffer.NOT_POSSIBLE);
        Due.due("5: setInitialDelay(9), it has arrived", x.setInitialDelay(9), PlayoutBuffer.NOT_POSSIBLE);
    }
}
