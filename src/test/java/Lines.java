/** Lines to begin a test with. */
final class Lines {
    private Lines() { }

    /** Two panels, a 'g' spot 0 at 22 and an 'r' spot 1 at 52, both of all variants, needs 4 and 5. */
    static Spotbeat twoSpots() {
        Spotbeat x = new Spotbeat();
        x.panel(0);
        x.panel(0);
        x.spot(1, 0, 22, 15, 4, true);
        x.spot(0, 1, 52, 15, 5, false);
        return x;
    }

    /** The same with one station and one robot, whose program for variant 0 makes both spots. */
    static Spotbeat oneRobot() {
        Spotbeat x = twoSpots();
        x.station();
        x.robot(0, 22, 12);
        x.step(0, 0, 'w', 0);
        x.step(0, 0, 'm', 52);
        x.step(0, 0, 'w', 1);
        return x;
    }

    /** Stations without robots. */
    static Spotbeat bare(int stations) {
        Spotbeat x = new Spotbeat();
        for (int i = 0; i < stations; i++) {
            x.station();
        }
        return x;
    }

    static void beats(Spotbeat x, int count) {
        for (int i = 0; i < count; i++) {
            x.beat();
        }
    }

    static Spotbeat pair(int baseOne, int baseTwo) {
        Spotbeat x = bare(1);
        x.robot(0, baseOne, 12);
        x.robot(0, baseTwo, 12);
        return x;
    }
}
