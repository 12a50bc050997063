/** Objects at different stages of their lives, for tests of what is refused or changes nothing. */
final class Stages {
    static final String[] NAMES = {"new", "scheduled", "begun", "rich", "ended"};

    private Stages() {
    }

    /** A new object at the stage of this name: two of them answer the same. */
    static PlayoutBuffer at(String name) {
        PlayoutBuffer x = new PlayoutBuffer();
        switch (name) {
            case "new" -> { }
            case "scheduled" -> Due.schedule(x, "d3@40;r1.2@41;");
            case "begun" -> x.arriveParity(false, 0, 1);
            case "rich" -> rich(x);
            default -> ended(x);
        }
        return x;
    }

    /** In the midst of a gap, with a full window that has gone round, and something in each place. */
    private static void rich(PlayoutBuffer x) {
        x.setFrame(5);
        x.setWave(11, 83);
        x.setInitialDelay(7);
        x.setMargin(9);
        x.setQuantile(40);
        x.keep(1);
        // the frames 3 and 12 are missing; 3 is restored; 0 to 4 are compressed
        Due.arrive(x, 0, 2);
        x.arriveParity(true, 0, 0);
        Due.arrive(x, 4, 11);
        Due.arrive(x, 13, 20);
        x.advance(30);
        x.keep(0);
        Due.schedule(x, "d40@200;c9.3@210;d23@150;");
        x.advance(70);
        x.arrive(12);
        x.arrive(12);
        x.arrive(12);
        x.arriveParity(true, 0, 0);
        Due.arrive(x, 30, 31);
        x.append('d');
        x.append('4');
        // frame 21 and the ones after it are concealed
        while (x.next() < 25) {
            x.advance(3);
        }
    }

    private static void ended(PlayoutBuffer x) {
        x.setFrame(4);
        x.setInitialDelay(0);
        Due.arrive(x, 0, 5);
        x.arriveParity(true, 0, 1);
        x.arrive(998);
        x.advance(9);
        x.keep(0);
        Due.pass(x, 4100);
        Due.schedule(x, "d9@4200;");
        x.keep(1);
    }
}
