/** Promises 24 to 27: the delay. */
public final class DelayTest {
    public static void main(String[] args) {
        transits();
        transit();
        windowForgetsTheOldest();
        target();
        level();
        Due.end();
    }

    private static void transits() {
        PlayoutBuffer x = new PlayoutBuffer();
        x.arriveParity(true, 0, 0);
        Due.due("24: transits(), parity has none", x.transits(), 0);
        x.arrive(0);
        Due.due("24: transits()", x.transits(), 1);
        x.arrive(0);
        Due.due("24: transits(), a duplicate has none", x.transits(), 1);
        x.arrive(1);
        x.arrive(2);
        Due.due("24: transits(), a restored frame has none", x.transits(), 3);
        x.arrive(3);
        Due.due("24: transits(), nor when it arrives", x.transits(), 3);
        x.advance(100);
        x.arrive(6);
        Due.due("24: late()", x.late(), 1);
        Due.due("24: transits(), late frames have one", x.transits(), 4);
        Due.arrive(x, 100, 111);
        Due.due("24: transits()", x.transits(), 16);
        x.arrive(112);
        Due.due("24: transits(), at most 16", x.transits(), 16);
    }

    private static void transit() {
        PlayoutBuffer x = new PlayoutBuffer();
        Due.due("25: transit(0)", x.transit(0), PlayoutBuffer.BAD_VALUE);
        x.advance(30);
        x.arrive(5);
        x.arrive(2);
        x.advance(3);
        x.arrive(3);
        x.advance(10);
        x.arrive(0);
        Due.due("25: transit(-1)", x.transit(-1), PlayoutBuffer.BAD_VALUE);
        Due.due("25: transit(4)", x.transit(4), PlayoutBuffer.BAD_VALUE);
        Due.due("25: transit(MAX)", x.transit(Integer.MAX_VALUE), PlayoutBuffer.BAD_VALUE);
        Due.due("25: transit(0)", x.transit(0), -10);
        Due.due("25: transit(1)", x.transit(1), 9);
        Due.due("25: transit(2)", x.transit(2), 14);
        Due.due("25: transit(3)", x.transit(3), 43);
        PlayoutBuffer y = new PlayoutBuffer();
        y.setFrame(4);
        y.arrive(249);
        Due.due("25: transit(0) of -996", y.transit(0), -996);
        y.advance(1);
        y.arrive(250);
        Due.due("25: transit(0) of -999", y.transit(0), -999);
        y.arrive(251);
        Due.due("25: transit(0) of -1003", y.transit(0), -999);
        y.arrive(999);
        Due.due("25: transit(0) of -3995", y.transit(0), -999);
        Due.due("25: transit(1) of -1003", y.transit(1), -999);
        Due.due("25: transit(3) of -996", y.transit(3), -996);
    }

    private static void windowForgetsTheOldest() {
        PlayoutBuffer x = new PlayoutBuffer();
        x.setFrame(4);
        x.arrive(5);
        x.arrive(50);
        Due.arrive(x, 20, 33);
        Due.due("25: transit(0)", x.transit(0), -200);
        Due.due("25: transit(15)", x.transit(15), -20);
        x.arrive(34);
        Due.due("25: transit(15), the first one is forgotten", x.transit(15), -80);
        Due.due("25: transit(0)", x.transit(0), -200);
        x.arrive(35);
        Due.due("25: transit(0), the second one, too", x.transit(0), -140);
        for (int i = 0; i < 16; i++) {
            Due.due("25: transit(" + i + ")", x.transit(i), -140 + 4 * i);
        }
    }

    private static void target() {
        PlayoutBuffer x = new PlayoutBuffer();
        x.setFrame(10);
        Due.due("26: target()", x.target(), 8);
        x.arrive(50);
        Due.due("26: target(), one transit", x.target(), 8);
        // at 90: of 2 the second, of 9 the ninth, of 10 the ninth, of 11 the tenth
        x.arrive(49);
        Due.due("26: target(), 2 transits", x.target(), 18);
        for (int frame = 48; frame >= 42; frame--) {
            x.arrive(frame);
        }
        Due.due("26: target(), 9 transits", x.target(), 88);
        x.arrive(41);
        Due.due("26: target(), 10 transits", x.target(), 88);
        x.arrive(40);
        Due.due("26: target(), 11 transits", x.target(), 98);
        for (int frame = 39; frame >= 35; frame--) {
            x.arrive(frame);
        }
        // of 16 the fifteenth
        Due.due("26: target(), 16 transits", x.target(), 148);
        x.setMargin(3);
        x.setQuantile(50);
        Due.due("26: target(), margin 3 and quantile 50", x.target(), 73);
        // the quantile is rounded up: 201 hundredths of 3 are the third, and 1 of 1 the first
        PlayoutBuffer z = new PlayoutBuffer();
        z.setQuantile(1);
        z.arrive(2);
        Due.due("26: target(), 1 of 1", z.target(), 8);
        z.arrive(1);
        z.arrive(0);
        Due.due("26: target(), 1 of 3", z.target(), 8);
        z.setQuantile(67);
        Due.due("26: target(), 67 of 3", z.target(), 24);
        z.setQuantile(66);
        Due.due("26: target(), 66 of 3", z.target(), 16);
        z.setQuantile(100);
        Due.due("26: target(), 100 of 3", z.target(), 24);
        // transits far below -999 count as they are
        PlayoutBuffer y = new PlayoutBuffer();
        y.setFrame(16);
        y.arrive(999);
        y.arrive(0);
        Due.due("26: target(), far apart", y.target(), 15984 + 8);
    }

    private static void level() {
        PlayoutBuffer x = new PlayoutBuffer();
        x.setFrame(5);
        x.setInitialDelay(0);
        x.setAdapting(false);
        Due.arrive(x, 1, 3);
        Due.due("27: level(), 0 is not known", x.level(), 0);
        x.arrive(0);
        Due.due("27: level()", x.level(), 20);
        x.arrive(5);
        Due.due("27: level(), 4 is not known", x.level(), 20);
        x.advance(1);
        Due.due("27: level(), 0 was taken", x.level(), 15);
        x.advance(4);
        Due.due("27: level(), 0 was output", x.level(), 15);
        x.arriveParity(false, 0, 0);
        Due.arrive(x, 8, 8);
        Due.due("27: level()", x.level(), 15);
        x.arrive(12);
        // column 0 gives 4
        Due.due("27: level(), 4 was restored", x.level(), 25);
        PlayoutBuffer y = new PlayoutBuffer();
        y.setFrame(4);
        y.setInitialDelay(0);
        y.setAdapting(false);
        Due.arrive(y, 990, 999);
        Due.pass(y, 4 * 990);
        Due.due("27: level(), up to 999", y.level(), 40);
        y.advance(33);
        Due.due("27: level(), 999 is the next", y.level(), 4);
        y.advance(4);
        Due.due("27: level(), 999 was taken", y.level(), 0);
        y.advance(4);
        Due.due("27: level(), at the end", y.level(), 0);
    }
}
