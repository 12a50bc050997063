/** Known frames: what restores them, what is a duplicate, and what is late. */
public final class KnownTest {
    public static void main(String[] args) {
        exactlyOneFrameThatIsNotKnown();
        packetBeforeItsFrames();
        longestChainByAFrame();
        longestChainByAPacket();
        otherBlocksAreNotTouched();
        playedFramesCountLikeOthers();
        concealedFramesAreRestored();
        restoredFramesHaveTheirSamples();
        duplicateOfAnArrivedFrame();
        duplicateOfARestoredFrame();
        duplicateOfALateFrame();
        duplicatePackets();
        lateFromTheNextFrameOn();
        lateAtTheEnd();
        lateFramesAreKnownButNotPlayed();
        lateFramesRestoreOthers();
        restoredFramesAreNeverLate();
        Due.end();
    }

    private static PlayoutBuffer plain(int samples) {
        PlayoutBuffer x = new PlayoutBuffer();
        x.setFrame(samples);
        x.setInitialDelay(0);
        x.setAdapting(false);
        return x;
    }

    /** "as long as a parity packet that has arrived covers exactly one frame that is not known, this frame is restored" */
    private static void exactlyOneFrameThatIsNotKnown() {
        for (int c = 2; c <= 6; c++) {
            for (int known = 0; known <= c; known++) {
                PlayoutBuffer x = new PlayoutBuffer();
                x.setBlock(c, 3);
                // row 1 has the frames c to 2 * c - 1
                Due.arrive(x, c, c + known - 1);
                Due.due("row of " + c + ", " + known + " known", x.arriveParity(true, 0, 1), known == c - 1 ? 1 : 0);
                Due.due("row of " + c + ", last state", x.state(2 * c - 1), known == c ? 2 : known == c - 1 ? 1 : 0);
                Due.due("row of " + c + ", missing()", x.missing(true, 0, 1), known >= c - 1 ? 0 : c - known);
                PlayoutBuffer y = new PlayoutBuffer();
                y.setBlock(3, c);
                // column 1 of block 1 has every third frame from 3 * c + 1 on
                for (int i = 0; i < known; i++) {
                    y.arrive(3 * c + 1 + 3 * i);
                }
                Due.due("column of " + c + ", " + known + " known", y.arriveParity(false, 1, 1), known == c - 1 ? 1 : 0);
                Due.due("column of " + c + ", missing()", y.missing(false, 1, 1), known >= c - 1 ? 0 : c - known);
            }
        }
    }

    /** "this frame is restored", too, if the packet arrived long before. */
    private static void packetBeforeItsFrames() {
        PlayoutBuffer x = plain(8);
        x.arriveParity(true, 1, 3);
        x.arriveParity(false, 2, 0);
        Due.due("arrive(28)", x.arrive(28), 1);
        Due.due("arrive(31)", x.arrive(31), 1);
        Due.due("arrive(30), the last but one", x.arrive(30), 2);
        Due.due("state(29)", x.state(29), 1);
        Due.due("arrive(29)", x.arrive(29), 0);
        x.advance(40);
        Due.due("arrive(44)", x.arrive(44), 1);
        Due.due("arrive(32)", x.arrive(32), 1);
        Due.due("arrive(40), the last but one", x.arrive(40), 2);
        Due.due("state(36)", x.state(36), 1);
    }

    /** A ring of twelve frames, two in each row and column of 6 * 6, of which one that arrives restores the others. */
    private static void longestChainByAFrame() {
        for (int first = 0; first < 36; first++) {
            if (!inRing(first)) {
                continue;
            }
            PlayoutBuffer x = new PlayoutBuffer();
            x.setBlock(6, 6);
            for (int k = 0; k < 36; k++) {
                if (!inRing(k)) {
                    x.arrive(36 + k);
                }
            }
            for (int i = 0; i < 6; i++) {
                Due.due("row of the ring", x.arriveParity(true, 1, i), 0);
                Due.due("column of the ring", x.arriveParity(false, 1, i), 0);
            }
            Due.due("unrestorable(1), a ring", x.unrestorable(1), 12);
            Due.due("arrive(" + (36 + first) + "), the ring", x.arrive(36 + first), 12);
            Due.due("unrestorable(1)", x.unrestorable(1), 0);
            for (int k = 0; k < 36; k++) {
                Due.due("state(" + (36 + k) + ")", x.state(36 + k), inRing(k) && k != first ? 1 : 2);
            }
        }
    }

    private static boolean inRing(int cell) {
        int step = Math.floorMod(cell % 6 - cell / 6, 6);
        return step <= 1;
    }

    /** A stair of eleven frames, of which the packet of column 0 restores the first, and so each the next. */
    private static void longestChainByAPacket() {
        PlayoutBuffer x = new PlayoutBuffer();
        x.setBlock(6, 6);
        for (int k = 0; k < 36; k++) {
            int step = k % 6 - k / 6;
            if (step != 0 && step != 1) {
                x.arrive(k);
            }
        }
        for (int i = 0; i < 5; i++) {
            Due.due("row of the stair", x.arriveParity(true, 0, i), 0);
            Due.due("column of the stair", x.arriveParity(false, 0, i + 1), 0);
        }
        Due.due("unrestorable(0), a stair", x.unrestorable(0), 0);
        Due.due("arriveParity(false, 0, 0)", x.arriveParity(false, 0, 0), 11);
        Due.due("arriveParity(true, 0, 5), nothing is left to restore", x.arriveParity(true, 0, 5), 0);
        Due.due("duplicates()", x.duplicates(), 0);
        Due.due("transits()", x.transits(), 16);
    }

    /** A packet covers frames of its block alone. */
    private static void otherBlocksAreNotTouched() {
        PlayoutBuffer x = new PlayoutBuffer();
        Due.arrive(x, 12, 14);
        Due.arrive(x, 17, 19);
        Due.due("arriveParity(true, 1, 3)", x.arriveParity(true, 1, 3), 0);
        Due.due("arriveParity(true, 0, 0)", x.arriveParity(true, 0, 0), 0);
        Due.due("state(15)", x.state(15), 0);
        Due.due("state(16)", x.state(16), 0);
        Due.due("arriveParity(true, 1, 0)", x.arriveParity(true, 1, 0), 1);
        Due.due("state(16), its row", x.state(16), 1);
        Due.due("arriveParity(true, 0, 3)", x.arriveParity(true, 0, 3), 1);
        Due.due("state(15), its row", x.state(15), 1);
    }

    /** "It does not matter for this whether frames have been played." */
    private static void playedFramesCountLikeOthers() {
        PlayoutBuffer x = plain(4);
        Due.arrive(x, 0, 2);
        x.advance(12);
        Due.due("next(), three were played", x.next(), 3);
        Due.due("arriveParity(true, 0, 0)", x.arriveParity(true, 0, 0), 1);
        x.advance(4);
        Due.due("kind(1)", x.kind(1), PlayoutBuffer.RESTORED);
        // played frames that are not known are missing still
        Due.due("missing(true, 0, 1)", x.missing(true, 0, 1), 4);
        x.advance(12);
        Due.due("missing(true, 0, 1), three were concealed", x.missing(true, 0, 1), 4);
        x.arrive(7);
        Due.due("arriveParity(true, 0, 1), three were concealed", x.arriveParity(true, 0, 1), 0);
    }

    /** The same for frames whose turn has passed: they are restored. */
    private static void concealedFramesAreRestored() {
        PlayoutBuffer x = plain(4);
        Due.arrive(x, 1, 3);
        x.advance(1);
        Due.due("kind(1)", x.kind(1), PlayoutBuffer.CONCEALED);
        int outputs = x.outputs();
        Due.due("arriveParity(true, 0, 0)", x.arriveParity(true, 0, 0), 1);
        Due.due("state(0)", x.state(0), 1);
        Due.due("kind(1), it stays", x.kind(1), PlayoutBuffer.CONCEALED);
        Due.due("next()", x.next(), 1);
        Due.due("outputs()", x.outputs(), outputs);
        x.advance(3);
        Due.outputs("the samples stay", x, 0, 0, 0, 0);
        Due.due("taken(RESTORED)", x.taken(PlayoutBuffer.RESTORED), 0);
    }

    /** "Restored frames have their samples as if they had arrived." */
    private static void restoredFramesHaveTheirSamples() {
        PlayoutBuffer x = plain(7);
        x.setWave(31, 199);
        Due.arrive(x, 1, 3);
        x.arriveParity(true, 0, 0);
        PlayoutBuffer y = plain(7);
        y.setWave(31, 199);
        Due.arrive(y, 0, 3);
        for (int j = 0; j < 7; j++) {
            Due.due("sample(0, " + j + ")", x.sample(0, j), y.sample(0, j));
            x.advance(1);
            Due.due("output(1)", x.output(1), y.sample(0, j));
        }
        Due.due("kind(1)", x.kind(1), PlayoutBuffer.RESTORED);
        // samples are there for frames that are not known, too
        Due.due("sample(999, 6)", x.sample(999, 6), 199 * (6999 % 31) % 201 - 100);
    }

    private static void oneDuplicateMore(String what, PlayoutBuffer x, PlayoutBuffer y, long answer) {
        Due.due(what, answer, 0);
        Answers.sameBut("after " + what, x, y, 1);
    }

    /** "If a frame arrives that is known already, it is a duplicate", "duplicates change nothing else". */
    private static void duplicateOfAnArrivedFrame() {
        PlayoutBuffer[] two = {plain(4), plain(4)};
        for (PlayoutBuffer x : two) {
            x.arrive(2);
            x.advance(5);
        }
        // two ticks later its transit would be another
        oneDuplicateMore("arrive(2) again", two[0], two[1], two[0].arrive(2));
        PlayoutBuffer x = Stages.at("rich");
        oneDuplicateMore("arrive(0) again, it was played", x, Stages.at("rich"), x.arrive(0));
        PlayoutBuffer y = Stages.at("ended");
        oneDuplicateMore("arrive(998) again, at the end", y, Stages.at("ended"), y.arrive(998));
    }

    /** "(a frame that was restored does not count as arrived by one)" */
    private static void duplicateOfARestoredFrame() {
        PlayoutBuffer[] two = {plain(4), plain(4)};
        for (PlayoutBuffer x : two) {
            Due.arrive(x, 1, 3);
            x.arriveParity(true, 0, 0);
        }
        oneDuplicateMore("arrive(0), restored before", two[0], two[1], two[0].arrive(0));
        PlayoutBuffer y = plain(4);
        Due.arrive(y, 1, 3);
        y.arriveParity(true, 0, 0);
        y.arrive(0);
        Due.due("state(0)", y.state(0), 1);
        y.advance(1);
        Due.due("kind(1)", y.kind(1), PlayoutBuffer.RESTORED);
        Due.due("taken(PLAYED)", y.taken(PlayoutBuffer.PLAYED), 0);
        // concealed, restored, and arrived then: no late frame
        PlayoutBuffer z = plain(4);
        z.advance(1);
        Due.arrive(z, 1, 3);
        z.advance(5);
        z.arriveParity(true, 0, 0);
        z.arrive(0);
        Due.due("late(), it was restored", z.late(), 0);
        Due.due("duplicates()", z.duplicates(), 1);
    }

    /** A late frame is known: when it arrives again, it is a duplicate and not late again. */
    private static void duplicateOfALateFrame() {
        PlayoutBuffer[] two = {plain(4), plain(4)};
        for (PlayoutBuffer x : two) {
            x.arrive(2);
            x.advance(5);
            x.arrive(0);
        }
        Due.due("late()", two[0].late(), 1);
        oneDuplicateMore("arrive(0) again, late", two[0], two[1], two[0].arrive(0));
    }

    /** "a parity packet that has arrived already is a duplicate, too": whatever it covers. */
    private static void duplicatePackets() {
        for (int known = 0; known <= 4; known++) {
            PlayoutBuffer[] two = {plain(4), plain(4)};
            for (PlayoutBuffer x : two) {
                Due.arrive(x, 4, 3 + known);
                x.arriveParity(true, 0, 1);
                x.advance(3);
            }
            oneDuplicateMore("arriveParity(true, 0, 1) again, " + known + " known", two[0], two[1],
                    two[0].arriveParity(true, 0, 1));
        }
        // each row and each column of each block has a packet of its own
        PlayoutBuffer x = new PlayoutBuffer();
        x.setBlock(6, 6);
        for (int block = 0; block < 28; block += 27) {
            for (int i = 0; i < 6; i++) {
                x.arriveParity(true, block, i);
                x.arriveParity(false, block, i);
                Due.due("duplicates(), packet " + i + " of block " + block, x.duplicates(), 0);
            }
        }
        for (int i = 0; i < 6; i++) {
            x.arriveParity(true, 27, i);
            x.arriveParity(false, 27, i);
            Due.due("duplicates(), packet " + i + " again", x.duplicates(), 2 * i + 2);
        }
    }

    /** "If a frame arrives that is not known and whose turn to be played has passed, it is late". */
    private static void lateFromTheNextFrameOn() {
        PlayoutBuffer x = plain(4);
        x.arriveParity(true, 9, 0);
        x.arrive(1);
        Due.due("late(), frame 0 is still to come", x.late(), 0);
        x.advance(12);
        Due.due("next()", x.next(), 3);
        x.arrive(3);
        Due.due("late(), the next frame", x.late(), 0);
        x.arrive(2);
        Due.due("late(), the frame before it", x.late(), 1);
        x.arrive(0);
        Due.due("late(), the first frame", x.late(), 2);
        x.arrive(1);
        Due.due("late(), a frame that was played", x.late(), 2);
        x.advance(1);
        x.arrive(4);
        Due.due("late(), the next frame again", x.late(), 2);
        // in the midst of a concealed frame its turn has passed
        PlayoutBuffer y = plain(4);
        y.arrive(1);
        y.advance(1);
        Due.due("left()", y.left(), 3);
        y.arrive(0);
        Due.due("late(), the frame that is concealed now", y.late(), 1);
    }

    private static void lateAtTheEnd() {
        PlayoutBuffer x = plain(4);
        x.arrive(998);
        Due.pass(x, 999 * 4);
        Due.due("next()", x.next(), 999);
        x.keep(0);
        x.arrive(999);
        Due.due("late(), 999 before its turn", x.late(), 0);
        x.restore(0);
        x.advance(1);
        x.arrive(999);
        Due.due("late(), 999 after its turn", x.late(), 1);
        x.advance(10);
        x.arrive(997);
        Due.due("late(), when all is over", x.late(), 2);
        x.arrive(998);
        Due.due("late(), 998 was played", x.late(), 2);
    }

    /** "it is known then, but it is not played". */
    private static void lateFramesAreKnownButNotPlayed() {
        PlayoutBuffer x = plain(4);
        x.arrive(2);
        x.advance(5);
        Due.due("arrive(0), late", x.arrive(0), 1);
        Due.due("state(0)", x.state(0), 2);
        Due.due("next()", x.next(), 2);
        Due.due("missing(true, 0, 0)", x.missing(true, 0, 0), 2);
        Due.due("transits()", x.transits(), 2);
        Due.due("transit(1)", x.transit(1), 5);
        Due.due("level(), it is no frame to come", x.level(), 4);
        x.advance(7);
        Due.due("kind(1)", x.kind(1), PlayoutBuffer.PLAYED);
        Due.due("kind(2)", x.kind(2), PlayoutBuffer.CONCEALED);
        Due.due("kind(3)", x.kind(3), PlayoutBuffer.CONCEALED);
        Due.due("taken(PLAYED)", x.taken(PlayoutBuffer.PLAYED), 1);
        Due.due("taken(CONCEALED)", x.taken(PlayoutBuffer.CONCEALED), 2);
    }

    private static void lateFramesRestoreOthers() {
        PlayoutBuffer x = plain(4);
        x.arriveParity(true, 0, 0);
        x.arrive(1);
        x.arrive(2);
        x.advance(1);
        Due.due("arrive(0), late", x.arrive(0), 2);
        Due.due("late()", x.late(), 1);
        Due.due("state(3)", x.state(3), 1);
        x.advance(12);
        Due.due("kind(1), frame 3", x.kind(1), PlayoutBuffer.RESTORED);
    }

    /** Late are frames that arrive: those that are restored after their turn are not. */
    private static void restoredFramesAreNeverLate() {
        PlayoutBuffer x = plain(4);
        x.arrive(1);
        x.arrive(4);
        x.arrive(5);
        x.advance(1);
        x.arriveParity(true, 0, 0);
        x.arriveParity(false, 0, 0);
        x.arriveParity(false, 0, 1);
        // 8 and 12 and 9 and 13 are missing; then the columns have one each
        x.arrive(9);
        Due.due("state(13)", x.state(13), 1);
        x.arrive(8);
        Due.due("state(0), its column has two", x.state(0), 0);
        Due.due("arrive(12)", x.arrive(12), 2);
        Due.due("state(0), restored after its turn", x.state(0), 1);
        Due.due("late()", x.late(), 0);
        Due.due("transits()", x.transits(), 6);
    }
}
