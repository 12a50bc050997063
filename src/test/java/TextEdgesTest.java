/** The text: its 120 characters, each part of an entry with each character, and where a text ends too early. */
public final class TextEdgesTest {
    private static final int NONE = PlayoutBuffer.NONE;

    public static void main(String[] args) {
        textOfUpTo120Characters();
        appendingGoesOnAfterAFault();
        clearTextAtEachLength();
        emptyText();
        eachCharacterAfterEachPart();
        numbersOfOneToFourDigits();
        numbersOfFiveDigits();
        semicolons();
        textsThatEndTooEarly();
        theFirstFaultCounts();
        faultsOfFullTexts();
        Due.end();
    }

    private static PlayoutBuffer of(String text) {
        PlayoutBuffer x = new PlayoutBuffer();
        Due.type(x, text);
        return x;
    }

    private static void fault(String text, int want) {
        Due.due("40: faultPosition() of " + text, of(text).faultPosition(), want);
    }

    /** "The text buffer holds at most 120 characters." */
    private static void textOfUpTo120Characters() {
        PlayoutBuffer x = new PlayoutBuffer();
        for (int length = 1; length <= 120; length++) {
            Due.due("38: append(), length " + length, x.append('d'), length);
        }
        for (int again = 0; again < 3; again++) {
            Due.due("38: append(), full", x.append('d'), PlayoutBuffer.FULL);
        }
        Due.due("39: clearText(), full", x.clearText(), 120);
        Due.due("38: append(), after it was full", x.append('d'), 1);
    }

    /** The text may be any: a fault does not keep characters from being appended. */
    private static void appendingGoesOnAfterAFault() {
        PlayoutBuffer x = of("x~ ");
        Due.due("38: append(';')", x.append(';'), 4);
        Due.due("40: faultPosition()", x.faultPosition(), 0);
        Due.due("38: append('d')", x.append('d'), 5);
        Due.due("40: faultPosition()", x.faultPosition(), 0);
    }

    /** "Returns the length that it had." */
    private static void clearTextAtEachLength() {
        for (int length : new int[] {0, 1, 2, 119, 120}) {
            PlayoutBuffer x = of("7".repeat(length));
            Due.due("39: clearText()", x.clearText(), length);
            Due.due("39: clearText() again", x.clearText(), 0);
            Due.due("40: faultPosition(), cleared", x.faultPosition(), NONE);
            Due.due("41: schedule(), cleared", x.schedule(), 0);
            Due.due("38: append(), cleared", x.append('d'), 1);
        }
        // nothing of the text before is left
        PlayoutBuffer y = of("d12@9;d13@9");
        y.clearText();
        Due.type(y, "d5@9;");
        Due.due("40: faultPosition(), a shorter text", y.faultPosition(), NONE);
        Due.due("41: schedule(), a shorter text", y.schedule(), 1);
    }

    /** "it consists of entries, perhaps none" */
    private static void emptyText() {
        PlayoutBuffer x = new PlayoutBuffer();
        Due.due("40: faultPosition(), empty", x.faultPosition(), NONE);
        Due.due("41: schedule(), empty", x.schedule(), 0);
        Due.due("42: scheduled()", x.scheduled(), 0);
        Due.due("2: setFrame(9), nothing is scheduled", x.setFrame(9), 8);
    }

    /** "the first character that cannot follow the characters before it": all 95 after each part of each entry. */
    private static void eachCharacterAfterEachPart() {
        String digits = "0123456789";
        String[][] follow = {
            {"", "drc"}, {"d1@2;", "drc"}, {"r1.2@3;", "drc"}, {"c1.2@3;d4@5;", "drc"},
            {"d", digits}, {"r", digits}, {"c", digits}, {"r7.", digits}, {"c7.", digits},
            {"d7@", digits}, {"r7.7@", digits}, {"c7.7@", digits},
            {"d7", digits + "@"}, {"d77", digits + "@"}, {"d777", digits + "@"}, {"d7777", "@"},
            {"r7", digits + "."}, {"r777", digits + "."}, {"r7777", "."},
            {"c7", digits + "."}, {"c777", digits + "."}, {"c7777", "."},
            {"r7.7", digits + "@"}, {"r7.777", digits + "@"}, {"r7.7777", "@"},
            {"c7.7", digits + "@"}, {"c7.777", digits + "@"}, {"c7.7777", "@"},
            {"d7@7", digits + ";"}, {"d7@777", digits + ";"}, {"d7@7777", ";"},
            {"r7.7@7", digits + ";"}, {"r7.7@777", digits + ";"}, {"r7.7@7777", ";"},
            {"c7.7@7", digits + ";"}, {"c7.7@777", digits + ";"}, {"c7.7@7777", ";"}};
        for (String[] part : follow) {
            for (char c = 32; c <= 126; c++) {
                String text = part[0] + c;
                boolean follows = part[1].indexOf(c) >= 0;
                int end = c == ';' ? NONE : text.length();
                fault(text, follows ? end : part[0].length());
                // what comes after a fault does not matter
                if (!follows) {
                    fault(text + "d1@2;", part[0].length());
                }
            }
        }
    }

    /** "A number has 1 to 4 digits.", with or without zeros before it. */
    private static void numbersOfOneToFourDigits() {
        String[] numbers = {"0", "00", "000", "0000", "9", "99", "999", "9999", "0007", "07"};
        for (String a : numbers) {
            for (String b : numbers) {
                fault("d" + a + "@" + b + ";", NONE);
                fault("r" + a + "." + b + "@1;", NONE);
                fault("c1." + a + "@" + b + ";", NONE);
            }
        }
        PlayoutBuffer x = of("d0007@0009;r0001.0002@0010;c02.03@011;");
        Due.due("41: schedule(), zeros before the numbers", x.schedule(), 3);
        x.advance(9);
        Due.due("state(7)", x.state(7), 0);
        x.advance(1);
        Due.due("state(7), it came at 9", x.state(7), 2);
        x.advance(2);
        Due.due("arriveParity(true, 1, 2), it came", x.arriveParity(true, 1, 2), 0);
        Due.due("arriveParity(false, 2, 3), it came", x.arriveParity(false, 2, 3), 0);
        Due.due("duplicates()", x.duplicates(), 2);
    }

    private static void numbersOfFiveDigits() {
        fault("d00001@1;", 5);
        fault("d1@00001;", 7);
        fault("r00001.1@1;", 5);
        fault("r1.00001@1;", 7);
        fault("c1.1@00001;", 9);
        fault("d12345", 5);
    }

    /** "each followed by a semicolon" */
    private static void semicolons() {
        fault("d1@1", 4);
        fault("d1@1;d1@1", 9);
        fault("d1@1d1@1;", 4);
        fault(";", 0);
        fault(";d1@1;", 0);
        fault("d1@1;;", 5);
        fault("d1@1;;d1@1;", 5);
        fault("d1@1;d1@1;", NONE);
        fault("d1@1; d1@1;", 5);
        fault("d1@1;\"", 5);
    }

    /** "or the length of the text if it ends too early" */
    private static void textsThatEndTooEarly() {
        String text = "d1@1;r22.22@22;c333.333@333;d4444@4444;r5555.5555@5555;";
        PlayoutBuffer x = new PlayoutBuffer();
        for (int length = 1; length <= text.length(); length++) {
            x.append(text.charAt(length - 1));
            boolean whole = text.charAt(length - 1) == ';';
            Due.due("40: faultPosition(), " + length + " characters", x.faultPosition(), whole ? NONE : length);
            int scheduled = x.schedule();
            Due.due("41: schedule(), " + length + " characters", scheduled == PlayoutBuffer.NOT_POSSIBLE ? 1 : 0,
                    whole ? 0 : 1);
        }
    }

    private static void theFirstFaultCounts() {
        fault("d1@1;x;y", 5);
        fault("dd@@;;", 1);
        fault("d1@1;r1@1;c1@1;", 7);
        fault("x" + "d1@1;".repeat(20), 0);
    }

    /** A text of 120 characters may be good, or have its fault at any place. */
    private static void faultsOfFullTexts() {
        String good = "d0@1;".repeat(24);
        fault(good, NONE);
        Due.due("41: schedule() of 24 in 120 characters", of(good).schedule(), 24);
        for (int i = 0; i < 120; i++) {
            fault(good.substring(0, i) + '!' + good.substring(i + 1), i);
        }
        fault("d00@1;" + good.substring(0, 114), 120);
        fault(good.substring(0, 119) + "1", 120);
        fault(good.substring(0, 115) + "d1234", 120);
        fault(good.substring(0, 115) + "d1@12", 120);
    }
}
