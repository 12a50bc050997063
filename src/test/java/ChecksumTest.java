/** Promise 45: the checksum, against its values as the other methods tell them, at each stage of an object. */
public final class ChecksumTest {
    public static void main(String[] args) {
        startOfANewObject();
        valuesInTheirOrder();
        valuesThatAreNoPartOfIt();
        leastAndLastOfTheRows();
        Due.end();
    }

    private static long[] values(PlayoutBuffer x) {
        long[] all = new long[17 + 64 + 16 + 100];
        long[] first = {x.time(), x.start(), x.outputs(), x.left(), x.next(), x.target(), x.level(), x.transits(),
            x.taken(1), x.taken(2), x.taken(3), x.stretched(), x.compressed(), x.late(), x.duplicates(),
            x.longestGap(), x.scheduled()};
        System.arraycopy(first, 0, all, 0, 17);
        for (int i = 1; i <= 64; i++) {
            all[16 + i] = x.output(i);
        }
        for (int i = 1; i <= 16; i++) {
            all[80 + i] = x.kind(i);
        }
        for (int i = 0; i <= 99; i++) {
            all[97 + i] = x.state(i);
        }
        return all;
    }

    /** "It starts with h = 41; for each of the following values, in this order, h becomes 31 * h + value" */
    private static long checksum(long[] values) {
        long h = 41;
        for (long value : values) {
            h = 31 * h + value;
        }
        return h;
    }

    /** Where there is no such thing, its value is NONE. */
    private static void startOfANewObject() {
        long none = PlayoutBuffer.NONE;
        long[] values = new long[197];
        values[1] = none;
        values[5] = 8;
        for (int i = 17; i < 97; i++) {
            values[i] = none;
        }
        Due.due("45: checksum(), new", new PlayoutBuffer().checksum(), checksum(values));
    }

    private static void valuesInTheirOrder() {
        for (String stage : Stages.NAMES) {
            PlayoutBuffer x = Stages.at(stage);
            long before = x.checksum();
            Due.due("45: checksum(), " + stage, before, checksum(values(x)));
            Due.due("45: checksum() changes nothing, " + stage, x.checksum(), before);
        }
        // each of the first values is another one than its neighbours, so that their order matters
        long[] rich = values(Stages.at("rich"));
        for (int i = 1; i < 17; i++) {
            Due.due("rich: value " + i + " differs", rich[i] != rich[i - 1] ? 1 : 0, 1);
        }
    }

    /** Text, slots, and what lies behind the rows do not count. */
    private static void valuesThatAreNoPartOfIt() {
        PlayoutBuffer x = Stages.at("rich");
        long before = x.checksum();
        x.append('7');
        x.keep(0);
        Due.due("45: checksum(), another text and slot", x.checksum(), before);
        x.clearText();
        Due.due("45: checksum(), no text", x.checksum(), before);
        Due.due("state(100)", x.state(100), 0);
        PlayoutBuffer y = new PlayoutBuffer();
        PlayoutBuffer z = new PlayoutBuffer();
        Due.arrive(y, 120, 121);
        Due.arrive(z, 122, 123);
        y.setAdapting(false);
        Due.due("45: checksum(), other frames above 99", y.checksum(), z.checksum());
    }

    /** "output(1) to output(64); kind(1) to kind(16); state() of the frames 0 to 99" */
    private static void leastAndLastOfTheRows() {
        for (int passed : new int[] {1, 15, 16, 17, 63, 64, 65, 130}) {
            PlayoutBuffer x = new PlayoutBuffer();
            x.setFrame(4);
            x.setInitialDelay(0);
            x.setAdapting(false);
            Due.arrive(x, 0, 2);
            x.arrive(8);
            x.arrive(99);
            x.arrive(100);
            x.advance(passed);
            Due.due("45: checksum() after " + passed, x.checksum(), checksum(values(x)));
        }
    }
}
