/** Promises 38 to 42: the text and the schedule. */
public final class TextTest {
    public static void main(String[] args) {
        append();
        clearText();
        faultPosition();
        faultPositionOfAllTexts();
        schedule();
        scheduleWhatDoesNotExist();
        scheduleIsFull();
        orderOfErrors();
        scheduled();
        Due.end();
    }

    private static void append() {
        PlayoutBuffer x = new PlayoutBuffer();
        for (int character : new int[] {31, 127, -1, 0, Integer.MAX_VALUE, Integer.MIN_VALUE, 65536 + 'd'}) {
            Due.due("38: append(" + character + ")", x.append(character), PlayoutBuffer.BAD_VALUE);
        }
        Due.due("38: append(32)", x.append(32), 1);
        Due.due("38: append(126)", x.append(126), 2);
        for (int i = 3; i <= 120; i++) {
            Due.due("38: append", x.append('0'), i);
        }
        Due.due("38: append, full", x.append('0'), PlayoutBuffer.FULL);
        Due.due("38: append(127), full", x.append(127), PlayoutBuffer.BAD_VALUE);
        Due.due("38: clearText()", x.clearText(), 120);
        Due.due("38: append", x.append('0'), 1);
    }

    private static void clearText() {
        PlayoutBuffer x = new PlayoutBuffer();
        Due.due("39: clearText()", x.clearText(), 0);
        Due.type(x, "d12@");
        Due.due("39: clearText()", x.clearText(), 4);
        Due.due("39: clearText()", x.clearText(), 0);
        Due.due("39: faultPosition()", x.faultPosition(), PlayoutBuffer.NONE);
        Due.due("39: append('d')", x.append('d'), 1);
        Due.due("39: faultPosition()", x.faultPosition(), 1);
    }

    private static int fault(String text) {
        PlayoutBuffer x = new PlayoutBuffer();
        Due.type(x, text);
        return x.faultPosition();
    }

    private static void faultPosition() {
        String[] good = {"", "d0@0;", "d1234@9999;", "r0.0@0;", "c1234.5678@0123;", "d9999@1;r9999.9999@0000;c1.2@3;"};
        for (String text : good) {
            Due.due("40: faultPosition() of " + text, fault(text), PlayoutBuffer.NONE);
        }
        String[] short1 = {"d", "d1", "d1234", "d1@", "d1@1", "d1@1234", "r", "r1", "r1.", "r1.1", "r1.1@", "c1.1@1",
            "d1@1;d", "d1@1;c22.1"};
        for (String text : short1) {
            Due.due("40: faultPosition() of " + text, fault(text), text.length());
        }
        // the fault is the last character
        String[] bad = {";", "x", "1", "@", " ", "D", "d;", "d@", "d.", "dd", "d-", "d1.", "d1;", "d1d", "d12345", "d1@;",
            "d1@@", "d1@d", "d1@.", "d1@1@", "d1@1.", "d1@12345", "d1@1d", "r@", "r.", "r;", "r1@", "r1;", "r12345",
            "r1..", "r1.@", "r1.;", "r1.1.", "r1.1;", "r1.12345", "c1.1@;", "c1.1@1.", "c1@", "d1@1; ", "d1@1;;",
            "d1@1;1", "d1@1;r1@", "d1@1:", "d1@/", "d:", "d1 "};
        for (String text : bad) {
            Due.due("40: faultPosition() of " + text, fault(text), text.length() - 1);
            Due.due("40: faultPosition() of " + text + " and more", fault(text + "d1@1;"), text.length() - 1);
        }
        // the number of a frame that does not exist is no fault
        Due.due("40: faultPosition()", fault("d1000@1;r999.99@0;"), PlayoutBuffer.NONE);
        String full = "d0@1;".repeat(24);
        Due.due("40: faultPosition() of 120 characters", fault(full), PlayoutBuffer.NONE);
        Due.due("40: faultPosition() that ends too early", fault("d00@1;" + full.substring(0, 114)), 120);
    }

    /** Every text of up to six of these characters, against the form of the document as a pattern. */
    private static void faultPositionOfAllTexts() {
        java.util.regex.Pattern form =
                java.util.regex.Pattern.compile("((d\\d{1,4}|[rc]\\d{1,4}\\.\\d{1,4})@\\d{1,4};)*");
        char[] letters = {'d', 'r', 'c', '7', '.', '@', ';'};
        PlayoutBuffer x = new PlayoutBuffer();
        for (int number = 0; number < 117649; number += 5) {
            StringBuilder text = new StringBuilder();
            for (int rest = number, i = 0; i < 6; i++, rest /= 7) {
                text.append(letters[rest % 7]);
            }
            x = number % 250 == 0 ? new PlayoutBuffer() : x;
            x.clearText();
            Due.type(x, text.toString());
            Due.due("40: faultPosition() of " + text, x.faultPosition(), expected(form, text.toString()));
        }
    }

    private static int expected(java.util.regex.Pattern form, String text) {
        for (int i = 1; i <= text.length(); i++) {
            java.util.regex.Matcher matcher = form.matcher(text.substring(0, i));
            if (!matcher.matches() && !matcher.hitEnd()) {
                return i - 1;
            }
        }
        return form.matcher(text).matches() ? PlayoutBuffer.NONE : text.length();
    }

    private static void schedule() {
        PlayoutBuffer x = new PlayoutBuffer();
        Due.due("41: schedule(), an empty text", x.schedule(), 0);
        Due.due("41: setFrame(8), nothing is scheduled", x.setFrame(8), 8);
        Due.due("41: schedule()", Due.schedule(x, "d0005@0010;r0.1@3;c2.3@4;"), 3);
        Due.due("41: scheduled()", x.scheduled(), 3);
        Due.due("41: clearText(), the text stays", x.clearText(), 25);
        x.advance(11);
        Due.due("41: state(5)", x.state(5), 2);
        Due.due("41: transit(0)", x.transit(0), 10 - 40);
        Due.due("41: start()", x.start(), 3 + 16);
        Due.due("41: arriveParity(true, 0, 1), it has arrived", x.arriveParity(true, 0, 1), 0);
        Due.due("41: arriveParity(false, 2, 3), it has arrived", x.arriveParity(false, 2, 3), 0);
        Due.due("41: duplicates()", x.duplicates(), 2);
        Due.due("41: arriveParity(true, 2, 3), it has not", x.arriveParity(true, 2, 3), 0);
        Due.due("41: duplicates()", x.duplicates(), 2);
        // the same text twice
        Due.due("41: schedule()", Due.schedule(x, "d9@20;"), 1);
        Due.due("41: schedule() again", x.schedule(), 1);
        Due.due("41: scheduled()", x.scheduled(), 2);
        x.advance(10);
        Due.due("41: duplicates()", x.duplicates(), 3);
        Due.due("41: state(9)", x.state(9), 2);
    }

    private static void scheduleWhatDoesNotExist() {
        PlayoutBuffer x = new PlayoutBuffer();
        x.setBlock(3, 5);
        x.advance(50);
        String[] bad = {"d1000@99;", "d9999@99;", "r67.0@99;", "c67.0@99;", "r0.5@99;", "c0.3@99;", "r9999.0@99;",
            "c0.9999@99;", "d0@50;", "d0@49;", "d0@0;", "r0.0@50;", "d1@99;d2@99;d3@50;d4@99;"};
        for (String text : bad) {
            Due.due("41: schedule() of " + text, Due.schedule(x, text), PlayoutBuffer.BAD_VALUE);
            Due.due("41: scheduled() after " + text, x.scheduled(), 0);
        }
        String[] good = {"d999@51;", "d0@9999;", "r66.4@99;", "c66.2@99;", "r0.4@99;", "c0.2@99;", "d0999@0051;"};
        for (String text : good) {
            Due.due("41: schedule() of " + text, Due.schedule(x, text), 1);
        }
        Due.due("41: scheduled()", x.scheduled(), good.length);
    }

    private static void scheduleIsFull() {
        PlayoutBuffer x = new PlayoutBuffer();
        Due.due("41: schedule() of 24", Due.schedule(x, "d0@1;d1@2;d2@3;d3@4;".repeat(6)), 24);
        Due.due("41: schedule() of none more", Due.schedule(x, ""), 0);
        Due.due("41: schedule() of one more", Due.schedule(x, "d0@1;"), PlayoutBuffer.FULL);
        Due.due("41: scheduled()", x.scheduled(), 24);
        x.advance(3);
        Due.due("41: scheduled()", x.scheduled(), 12);
        Due.due("41: duplicates()", x.duplicates(), 10);
        Due.due("41: schedule() of 13", Due.schedule(x, "d9@9;".repeat(13)), PlayoutBuffer.FULL);
        Due.due("41: schedule() of 12", Due.schedule(x, "d9@9;".repeat(12)), 12);
        Due.due("41: scheduled()", x.scheduled(), 24);
        // those that stay keep their order
        x.advance(1);
        Due.due("41: state(2)", x.state(2), 2);
        Due.due("41: state(9)", x.state(9), 0);
        x.advance(6);
        Due.due("41: state(9)", x.state(9), 2);
        Due.due("41: scheduled()", x.scheduled(), 0);
        Due.due("41: duplicates()", x.duplicates(), 5 * 4 + 11);
    }

    private static void orderOfErrors() {
        PlayoutBuffer x = new PlayoutBuffer();
        Due.due("41: a fault comes first", Due.schedule(x, "d1000@1;d"), PlayoutBuffer.NOT_POSSIBLE);
        Due.schedule(x, "d0@1;d1@2;d2@3;d3@4;".repeat(6));
        Due.due("41: a fault, full", Due.schedule(x, "d1@1"), PlayoutBuffer.NOT_POSSIBLE);
        Due.due("41: what does not exist, full", Due.schedule(x, "d1000@1;"), PlayoutBuffer.BAD_VALUE);
        Due.due("41: full", Due.schedule(x, "d1@1;"), PlayoutBuffer.FULL);
        Due.due("41: scheduled()", x.scheduled(), 24);
    }

    private static void scheduled() {
        PlayoutBuffer x = new PlayoutBuffer();
        Due.due("42: scheduled()", x.scheduled(), 0);
        Due.schedule(x, "d0@3;d1@3;d2@5;r0.0@4;");
        Due.due("42: scheduled()", x.scheduled(), 4);
        x.clearText();
        Due.due("42: scheduled(), the text is empty", x.scheduled(), 4);
        x.advance(3);
        Due.due("42: scheduled(), before the tick", x.scheduled(), 4);
        x.advance(1);
        Due.due("42: scheduled()", x.scheduled(), 2);
        x.advance(1);
        Due.due("42: scheduled()", x.scheduled(), 1);
        Due.due("42: state(2)", x.state(2), 0);
        x.arrive(2);
        Due.due("42: scheduled(), it arrived otherwise", x.scheduled(), 1);
        x.advance(1);
        Due.due("42: scheduled()", x.scheduled(), 0);
        Due.due("42: duplicates()", x.duplicates(), 1);
    }
}
