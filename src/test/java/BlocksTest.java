import java.util.ArrayList;
import java.util.List;

/** How frames are arranged in blocks, rows and columns, in each of the 25 shapes, and where the last block ends. */
public final class BlocksTest {
    public static void main(String[] args) {
        for (int c = 2; c <= 6; c++) {
            for (int r = 2; r <= 6; r++) {
                firstAndLastFrames(c, r);
                missingInTheLastBlock(c, r);
                packetsOfTheLastBlock(c, r);
                parityOfTheLastBlock(c, r);
                unrestorableOfTheLastBlock(c, r);
                allFramesOfTheLastBlockArrive(c, r);
                unrestorableNeedsEachPacket(c, r);
            }
        }
        framesAboveTheLastAreNeverPlayed();
        packetsThatCoverNothingOfTheStream();
        Due.end();
    }

    private static PlayoutBuffer shaped(int c, int r) {
        PlayoutBuffer x = new PlayoutBuffer();
        x.setBlock(c, r);
        return x;
    }

    /** The frames up to 999 that a packet covers, found by the frames' own rows and columns. */
    private static List<Integer> covered(int c, int r, boolean row, int block, int index) {
        List<Integer> frames = new ArrayList<>();
        for (int k = 0; k <= 999; k++) {
            int line = row ? k % (c * r) / c : k % c;
            if (k / (c * r) == block && line == index) {
                frames.add(k);
            }
        }
        return frames;
    }

    /** "Frame k belongs to the block k / (C * R), to the row (k modulo (C * R)) / C, and to the column k modulo C." */
    private static void firstAndLastFrames(int c, int r) {
        int cells = c * r;
        int last = 999 / cells;
        int[] frames = {0, c - 1, c, cells - 1, cells, 2 * cells - 1, last * cells - 1, last * cells, 999};
        for (int k : frames) {
            PlayoutBuffer x = shaped(c, r);
            x.arrive(k);
            for (int block = Math.max(0, k / cells - 1); block <= Math.min(last, k / cells + 1); block++) {
                for (int i = 0; i < r; i++) {
                    int want = countWithout(covered(c, r, true, block, i), k);
                    Due.due(c + " * " + r + ": missing(true, " + block + ", " + i + ")", x.missing(true, block, i), want);
                }
                for (int i = 0; i < c; i++) {
                    int want = countWithout(covered(c, r, false, block, i), k);
                    Due.due(c + " * " + r + ": missing(false, " + block + ", " + i + ")", x.missing(false, block, i), want);
                }
            }
        }
    }

    private static int countWithout(List<Integer> frames, int k) {
        return frames.size() - (frames.contains(k) ? 1 : 0);
    }

    /** "frames above 999 in the last block count as arrived from the beginning": they are not missing. */
    private static void missingInTheLastBlock(int c, int r) {
        PlayoutBuffer x = shaped(c, r);
        int last = 999 / (c * r);
        int sum = 0;
        for (int i = 0; i < r; i++) {
            Due.due(c + " * " + r + ": missing row " + i, x.missing(true, last, i), covered(c, r, true, last, i).size());
            sum += x.missing(true, last, i);
        }
        Due.due(c + " * " + r + ": frames of the last block", sum, 1000 - last * c * r);
        for (int i = 0; i < c; i++) {
            Due.due(c + " * " + r + ": missing column " + i, x.missing(false, last, i),
                    covered(c, r, false, last, i).size());
        }
        // "A block beyond frame 999 has no packets"
        Due.due(c + " * " + r + ": missing(true, last + 1, 0)", x.missing(true, last + 1, 0), PlayoutBuffer.BAD_VALUE);
        Due.due(c + " * " + r + ": missing(false, last + 1, 0)", x.missing(false, last + 1, 0), PlayoutBuffer.BAD_VALUE);
    }

    /** "count as arrived": a packet of the last block restores the one frame that is missing, and no frame above 999. */
    private static void packetsOfTheLastBlock(int c, int r) {
        int last = 999 / (c * r);
        for (int line = 0; line < c + r; line++) {
            boolean row = line < r;
            int index = row ? line : line - r;
            List<Integer> frames = covered(c, r, row, last, index);
            String what = c + " * " + r + ": packet " + row + " " + index;
            // with none known, with all but one known, and with all known
            Due.due(what + ", none known", shaped(c, r).arriveParity(row, last, index), frames.size() == 1 ? 1 : 0);
            if (frames.isEmpty()) {
                continue;
            }
            PlayoutBuffer x = shaped(c, r);
            for (int k : frames.subList(1, frames.size())) {
                x.arrive(k);
            }
            Due.due(what + ", one missing", x.arriveParity(row, last, index), 1);
            Due.due(what + ", state()", x.state(frames.get(0)), 1);
            Due.due(what + ", missing()", x.missing(row, last, index), 0);
            PlayoutBuffer y = shaped(c, r);
            for (int k : frames) {
                y.arrive(k);
            }
            Due.due(what + ", all known", y.arriveParity(row, last, index), 0);
            Due.due(what + ", duplicates()", y.duplicates(), 0);
        }
    }

    /** "the exclusive or of (sample + 128) over all frames that it covers, up to frame 999". */
    private static void parityOfTheLastBlock(int c, int r) {
        PlayoutBuffer x = shaped(c, r);
        int last = 999 / (c * r);
        for (int line = 0; line < c + r; line++) {
            boolean row = line < r;
            int index = row ? line : line - r;
            for (int place : new int[] {0, 7}) {
                int parity = 0;
                for (int k : covered(c, r, row, last, index)) {
                    parity ^= x.sample(k, place) + 128;
                }
                Due.due(c + " * " + r + ": paritySample(" + row + ", last, " + index + ", " + place + ")",
                        x.paritySample(row, last, index, place), parity);
            }
        }
        Due.due(c + " * " + r + ": paritySample(last + 1)", x.paritySample(true, last + 1, 0, 0), PlayoutBuffer.BAD_VALUE);
    }

    /** "how many frames of a block would not be known if all parity packets of the block had arrived". */
    private static void unrestorableOfTheLastBlock(int c, int r) {
        int last = 999 / (c * r);
        Due.due(c + " * " + r + ": unrestorable(last)", shaped(c, r).unrestorable(last), restNever(c, r, last));
        PlayoutBuffer x = shaped(c, r);
        for (int k = last * c * r; k < 999; k++) {
            x.arrive(k);
        }
        Due.due(c + " * " + r + ": unrestorable(last), 999 alone is missing", x.unrestorable(last), 0);
        Due.due(c + " * " + r + ": state(999)", x.state(999), 0);
        Due.due(c + " * " + r + ": unrestorable(last + 1)", x.unrestorable(last + 1), PlayoutBuffer.BAD_VALUE);
        // a block before it has all its frames
        Due.due(c + " * " + r + ": unrestorable(last - 1)", x.unrestorable(last - 1), c * r);
    }

    /** How many frames of a block of which none is known are left, when lines with one of them give it, again and again. */
    private static int restNever(int c, int r, int block) {
        List<Integer> rest = new ArrayList<>();
        for (int i = 0; i < r; i++) {
            rest.addAll(covered(c, r, true, block, i));
        }
        for (int round = 0; round < c * r; round++) {
            for (int line = 0; line < c + r; line++) {
                List<Integer> unknown = covered(c, r, line < r, block, line < r ? line : line - r);
                unknown.retainAll(rest);
                if (unknown.size() == 1) {
                    rest.removeAll(unknown);
                }
            }
        }
        return rest.size();
    }

    /**
     * A square of four frames cannot be restored, and one frame more, beside it, by the packet of one line alone: each
     * row and each column in its turn.
     */
    private static void unrestorableNeedsEachPacket(int c, int r) {
        for (int line = 0; line < c + r; line++) {
            boolean row = line < r;
            int index = row ? line : line - r;
            int lines = row ? r : c;
            if (lines < 3) {
                continue;
            }
            PlayoutBuffer x = shaped(c, r);
            for (int k = 0; k < c * r; k++) {
                int along = row ? k % c : k / c;
                int step = Math.floorMod((row ? k / c : k % c) - index, lines);
                boolean missing = step == 0 && along == 0 || (step == 1 || step == 2) && along <= 1;
                if (!missing) {
                    x.arrive(c * r + k);
                }
            }
            String what = c + " * " + r + ": a square, " + (row ? "row " : "column ") + index;
            Due.due(what + ", unrestorable(1)", x.unrestorable(1), 4);
            Due.due(what + ", nothing is changed", x.missing(row, 1, index), 1);
            Due.due(what + ", arriveParity()", x.arriveParity(row, 1, index), 1);
            Due.due(what + ", unrestorable(1)", x.unrestorable(1), 4);
        }
    }

    /** No frame above 999 becomes known by what arrives: each arrival counts its own frame alone. */
    private static void allFramesOfTheLastBlockArrive(int c, int r) {
        PlayoutBuffer x = shaped(c, r);
        int last = 999 / (c * r);
        for (int k = last * c * r; k <= 999; k++) {
            Due.due(c + " * " + r + ": arrive(" + k + ")", x.arrive(k), 1);
        }
        Due.due(c + " * " + r + ": arrive(1000)", x.arrive(1000), PlayoutBuffer.BAD_VALUE);
        for (int i = 0; i < r; i++) {
            Due.due(c + " * " + r + ": row " + i, x.arriveParity(true, last, i), 0);
        }
        for (int i = 0; i < c; i++) {
            Due.due(c + " * " + r + ": column " + i, x.arriveParity(false, last, i), 0);
        }
        Due.due(c + " * " + r + ": transits()", x.transits(), Math.min(16, 1000 - last * c * r));
        Due.due(c + " * " + r + ": duplicates()", x.duplicates(), 0);
    }

    /** "although they are never played". */
    private static void framesAboveTheLastAreNeverPlayed() {
        // 6 * 6: the last block has the frames 972 to 1007
        PlayoutBuffer x = shaped(6, 6);
        x.setFrame(4);
        x.setInitialDelay(0);
        x.setAdapting(false);
        Due.arrive(x, 990, 999);
        Due.pass(x, 4 * 999 + 3);
        Due.due("next(), 999 has been taken", x.next(), PlayoutBuffer.NONE);
        Due.due("left()", x.left(), 1);
        Due.due("level(), no frame is left", x.level(), 0);
        Due.due("advance(500), one sample is left", x.advance(500), 1);
        Due.due("advance(500), none is left", x.advance(500), 0);
        Due.due("outputs()", x.outputs(), 4000);
        Due.due("taken(PLAYED)", x.taken(PlayoutBuffer.PLAYED), 10);
        Due.due("taken(RESTORED)", x.taken(PlayoutBuffer.RESTORED), 0);
        Due.due("taken(CONCEALED)", x.taken(PlayoutBuffer.CONCEALED), 990);
        Due.due("gapsIn(1000)", x.gapsIn(1000), 0);
    }

    /** A row of the last block that lies above 999 has a packet that covers nothing of the stream. */
    private static void packetsThatCoverNothingOfTheStream() {
        PlayoutBuffer x = shaped(2, 6);
        // 83 * 12 is 996: the rows 0 and 1 are of the stream, 2 to 5 are not
        for (int i = 2; i < 6; i++) {
            Due.due("missing(true, 83, " + i + ")", x.missing(true, 83, i), 0);
            Due.due("paritySample(true, 83, " + i + ", 3)", x.paritySample(true, 83, i, 3), 0);
            Due.due("arriveParity(true, 83, " + i + ")", x.arriveParity(true, 83, i), 0);
            Due.due("arriveParity(true, 83, " + i + ") again", x.arriveParity(true, 83, i), 0);
            Due.due("duplicates()", x.duplicates(), i - 1);
        }
        Due.due("start()", x.start(), 16);
        Due.due("unrestorable(83)", x.unrestorable(83), 4);
    }
}
