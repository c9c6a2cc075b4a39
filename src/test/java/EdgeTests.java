import java.util.NoSuchElementException;

/**
 * The sentences of the document that name a boundary: too small, too large, empty, full, a wrap-around, a refused
 * call. Each has a test of its own here; the comment over it is the sentence.
 */
public final class EdgeTests {
    private static final Class<IndexOutOfBoundsException> INDEX = IndexOutOfBoundsException.class;
    private static final Class<IllegalArgumentException> ARGUMENT = IllegalArgumentException.class;
    private static final Class<UnsupportedOperationException> UNSUPPORTED = UnsupportedOperationException.class;
    private static final Class<IllegalStateException> STATE = IllegalStateException.class;
    private static final Class<NoSuchElementException> NO_ELEMENT = NoSuchElementException.class;
    private static final int LEAST = Integer.MIN_VALUE;
    private static final int MOST = Integer.MAX_VALUE;

    private final Check check = new Check("EdgeTests");

    public static void main(String[] args) {
        EdgeTests tests = new EdgeTests();
        tests.panels();
        tests.spots();
        tests.held();
        tests.stations();
        tests.reach();
        tests.sweeps();
        tests.programs();
        tests.welds();
        tests.zones();
        tests.meetingsAlongY();
        tests.meetingsAllOver();
        tests.meetingsNowhere();
        tests.meetingsWhereItStays();
        tests.proofsOneAfterAnother();
        tests.statesOfFullPrograms();
        tests.uncovered();
        tests.deals();
        tests.dealsBesidesOthers();
        tests.orders();
        tests.longestLine();
        tests.lineThatStands();
        tests.lineThatGrows();
        tests.letters();
        tests.workOrder();
        tests.goodWelds();
        tests.wear();
        tests.dressing();
        tests.standIns();
        tests.lacking();
        tests.mending();
        tests.makers();
        tests.measures();
        tests.feedingBack();
        tests.feedingBackCuts();
        tests.checksums();
        tests.shares();
        tests.sound();
        tests.lastCalls();
        tests.check.close();
    }

    // ---- panels and spots

    /** At most 8 panels are numbered from 0: the first one is the floor, each other one hangs on an earlier one. */
    private void panels() {
        for (int parent : new int[] {LEAST, -1, 0, 1, 8, MOST}) {
            check.due("the first one with parent " + parent, 0, () -> new Spotbeat().panel(parent));
        }
        Spotbeat x = new Spotbeat();
        x.panel(5);
        check.fails("the parent told to the floor is not there", INDEX, () -> x.panel(5));
        check.fails("one hangs not on itself", INDEX, () -> x.panel(1));
        check.fails("nor on a later one", INDEX, () -> x.panel(2));
        check.fails("only the first one is free of a parent", INDEX, () -> x.panel(-1));
        check.fails("far below", INDEX, () -> x.panel(LEAST));
        check.fails("far above", INDEX, () -> x.panel(MOST));
        check.due("all that is left nothing", 1, () -> x.panel(0));
        for (int i = 2; i < 8; i++) {
            int number = i;
            check.due("on the latest one", i, () -> x.panel(number - 1));
        }
        for (int parent = 0; parent < 8; parent++) {
            int on = parent;
            check.fails("full, on " + on, STATE, () -> x.panel(on));
        }
        check.fails("full, and no such parent", INDEX, () -> x.panel(8));
        check.fails("full, and below", INDEX, () -> x.panel(-1));
    }

    /** Between two unlike panels of which one is the parent of the other, at x 0 to 11 and y 0 to 7, need 1 to 9. */
    private void spots() {
        Spotbeat bare = new Spotbeat();
        check.fails("no panels", INDEX, () -> bare.spot(0, 1, 0, 1, 1, true));
        bare.panel(0);
        check.fails("the floor alone with itself", UNSUPPORTED, () -> bare.spot(0, 0, 0, 1, 1, true));
        check.fails("the floor with none", INDEX, () -> bare.spot(0, -1, 0, 1, 1, true));
        check.fails("none with the floor", INDEX, () -> bare.spot(-1, 0, 0, 1, 1, true));
        Spotbeat x = new Spotbeat();
        x.panel(0);
        x.panel(0);
        x.panel(1);
        check.fails("a grandparent is no parent", UNSUPPORTED, () -> x.spot(2, 0, 0, 1, 1, true));
        check.fails("nor a grandchild a child", UNSUPPORTED, () -> x.spot(0, 2, 0, 1, 1, true));
        int number = 0;
        for (int place : new int[] {0, 7, 110, 117, 10}) {
            int due = number++;
            check.due("corner " + place, due, () -> x.spot(0, 1, place, 1, 1, false));
        }
        for (int place : new int[] {-1, -10, 8, 9, 19, 78, 109, 118, 119, 120, 1000, LEAST, MOST}) {
            check.fails("no place " + place, ARGUMENT, () -> x.spot(0, 1, place, 1, 1, false));
        }
        check.fails("need 0", ARGUMENT, () -> x.spot(0, 1, 0, 1, 0, false));
        check.fails("need 10", ARGUMENT, () -> x.spot(0, 1, 0, 1, 10, false));
        check.fails("need far below", ARGUMENT, () -> x.spot(0, 1, 0, 1, LEAST, false));
        check.fails("no variants", ARGUMENT, () -> x.spot(0, 1, 0, 0, 1, false));
        check.fails("a variant 4", ARGUMENT, () -> x.spot(0, 1, 0, 16, 1, false));
        check.fails("a variant 4 beside others", ARGUMENT, () -> x.spot(0, 1, 0, 17, 1, false));
        check.fails("all bits", ARGUMENT, () -> x.spot(0, 1, 0, -1, 1, false));
        check.fails("the highest bit", ARGUMENT, () -> x.spot(0, 1, 0, LEAST | 1, 1, false));
        check.due("all that is left nothing", 5, () -> x.spot(2, 1, 117, 15, 9, true));
        check.due("variant 0 has all", 6, () -> x.spots(0));
        check.due("variant 3 has the last", 1, () -> x.spots(3));
        for (int variant : new int[] {-1, 4, 31, 32, 35, LEAST, MOST}) {
            check.fails("no variant " + variant, INDEX, () -> x.spots(variant));
            check.fails("none held " + variant, INDEX, () -> x.isHeld(variant));
        }
        for (int i = 6; i < 24; i++) {
            int due = i;
            check.due("spot " + i, due, () -> x.spot(2, 1, 0, 8, 1, false));
        }
        check.fails("a 25th", STATE, () -> x.spot(2, 1, 0, 8, 1, false));
        check.due("none came of it", 19, () -> x.spots(3));
    }

    /** A variant is held if for each panel but the floor, if there are such, there is a 'g' spot of the variant. */
    private void held() {
        Spotbeat x = new Spotbeat();
        for (int variant = 0; variant < 4; variant++) {
            int of = variant;
            check.due("held without panels", true, () -> x.isHeld(of));
        }
        x.panel(0);
        check.due("held by the floor alone", true, () -> x.isHeld(1));
        x.panel(0);
        check.due("the only panel beside the floor", false, () -> x.isHeld(1));
        x.spot(0, 1, 0, 2, 1, true);
        check.due("held by one spot", true, () -> x.isHeld(1));
        check.due("not for the next variant", false, () -> x.isHeld(2));
        x.panel(1);
        check.due("the last panel is not held", false, () -> x.isHeld(1));
        x.spot(1, 0, 0, 2, 1, true);
        check.due("two spots of one panel hold not another", false, () -> x.isHeld(1));
        x.spot(1, 2, 0, 2, 1, true);
        check.due("the last panel is held", true, () -> x.isHeld(1));
        Spotbeat full = new Spotbeat();
        full.panel(0);
        for (int i = 1; i < 8; i++) {
            full.panel(i - 1);
            full.spot(i, i - 1, 0, 8, 1, i < 7);
        }
        check.due("all but the eighth", false, () -> full.isHeld(3));
        full.spot(6, 7, 0, 8, 1, true);
        check.due("all eight", true, () -> full.isHeld(3));
    }

    // ---- stations, robots, programs

    /** At most 4 stations, each with at most 3 robots; at most 12 robots, a base of its own in its station. */
    private void stations() {
        Spotbeat x = new Spotbeat();
        check.fails("no station for a robot", INDEX, () -> x.robot(0, 0, 1));
        x.station();
        check.fails("none beside it", INDEX, () -> x.robot(1, 0, 1));
        check.due("base 0, reach 1", 0, () -> x.robot(0, 0, 1));
        check.due("base 117, reach 12", 1, () -> x.robot(0, 117, 12));
        check.fails("a base taken", UNSUPPORTED, () -> x.robot(0, 117, 1));
        check.fails("reach 0", ARGUMENT, () -> x.robot(0, 50, 0));
        check.fails("reach 13", ARGUMENT, () -> x.robot(0, 50, 13));
        check.fails("reach far above", ARGUMENT, () -> x.robot(0, 50, MOST));
        check.fails("reach far below", ARGUMENT, () -> x.robot(0, 50, LEAST));
        check.fails("base 118", ARGUMENT, () -> x.robot(0, 118, 1));
        check.fails("base 120", ARGUMENT, () -> x.robot(0, 120, 1));
        check.due("what failed left nothing", 2, () -> x.robot(0, 50, 1));
        check.fails("a fourth in the station", STATE, () -> x.robot(0, 60, 1));
        check.fails("a fourth, its base taken", UNSUPPORTED, () -> x.robot(0, 50, 1));
        check.fails("a fourth, out of range", ARGUMENT, () -> x.robot(0, 50, 13));
        check.due("current at first", 12, () -> x.current(2, 30));
        check.fails("current 31", ARGUMENT, () -> x.current(2, 31));
        check.fails("current 0", ARGUMENT, () -> x.current(2, 0));
        check.fails("current below", ARGUMENT, () -> x.current(2, LEAST));
        check.fails("no robot 3", INDEX, () -> x.current(3, 0));
        check.due("the one before, not a refused one", 30, () -> x.current(2, 1));
        check.due("the least", 1, () -> x.current(2, 1));
        for (int station = 1; station < 4; station++) {
            x.station();
            for (int robot = 0; robot < 3; robot++) {
                int number = 3 * station + robot;
                int at = station;
                check.due("robot " + number, number, () -> x.robot(at, 10 * number - 10, 1 + number));
            }
        }
        check.fails("all full", STATE, () -> x.robot(3, 117, 1));
        check.fails("no fifth station", STATE, () -> x.station());
        check.fails("nor a robot in it", INDEX, () -> x.robot(4, 117, 1));
    }

    /** A robot reaches a place if neither x nor y are farther from its base than its reach. */
    private void reach() {
        Spotbeat x = Lines.bare(2);
        x.robot(0, 0, 11);
        x.robot(0, 117, 12);
        x.robot(0, 57, 1);
        x.robot(1, 117, 10);
        check.due("11 cells along x", true, () -> x.reaches(0, 117));
        check.due("the other corner", true, () -> x.reaches(1, 0));
        check.due("its base", true, () -> x.reaches(2, 57));
        check.due("one aside along both", true, () -> x.reaches(2, 66));
        check.due("one back along x", true, () -> x.reaches(2, 47));
        check.due("two along y", false, () -> x.reaches(2, 55));
        check.due("two along x", false, () -> x.reaches(2, 77));
        check.due("10 cells are not 11", false, () -> x.reaches(3, 7));
        check.due("10 cells", true, () -> x.reaches(3, 10));
        for (int place : new int[] {-1, 8, 118, 120, LEAST, MOST}) {
            check.fails("no place " + place, ARGUMENT, () -> x.reaches(0, place));
        }
        check.fails("no robot, nor a place", INDEX, () -> x.reaches(4, 8));
        check.fails("a step too far", UNSUPPORTED, () -> x.step(3, 0, 'm', 7));
        check.due("a step as far as can be", 1, () -> x.step(3, 0, 'm', 10));
    }

    /** The cells that it sweeps from a place to another one, both places counted. */
    private void sweeps() {
        Spotbeat x = new Spotbeat();
        for (int place : new int[] {0, 7, 34, 110, 117}) {
            check.due("from " + place + " to itself", 1, () -> x.swept(place, place));
        }
        check.due("to the next along x", 2, () -> x.swept(0, 10));
        check.due("to the next along y", 2, () -> x.swept(117, 116));
        check.due("corner to corner", 19, () -> x.swept(0, 117));
        check.due("the other corners", 19, () -> x.swept(110, 7));
        for (int place : new int[] {-1, 8, 9, 118, 120, LEAST, MOST}) {
            check.fails("from " + place, ARGUMENT, () -> x.swept(place, 0));
            check.fails("to " + place, ARGUMENT, () -> x.swept(0, place));
        }
    }

    /** A program for each variant, empty at first, of at most 12 steps; a zone, 0 to 3. */
    private void programs() {
        Spotbeat x = Lines.twoSpots();
        x.station();
        x.robot(0, 22, 1);
        for (int variant = 0; variant < 4; variant++) {
            int of = variant;
            check.due("empty at first", 0, () -> x.steps(0, of));
            check.due("empty to erase", 0, () -> x.erase(0, of));
            check.due("empty without welds", 0, () -> x.welds(0, of));
        }
        for (char kind : new char[] {'m', 'w', 'c', 'f'}) {
            check.fails("number -1 of " + kind, ARGUMENT, () -> x.step(0, 0, kind, -1));
            check.fails("number far above of " + kind, ARGUMENT, () -> x.step(0, 0, kind, MOST));
            check.fails("number far below of " + kind, ARGUMENT, () -> x.step(0, 0, kind, LEAST));
            check.fails("variant 4 of " + kind, INDEX, () -> x.step(0, 4, kind, -1));
            check.fails("variant -1 of " + kind, INDEX, () -> x.step(0, -1, kind, -1));
            check.fails("robot 1 of " + kind, INDEX, () -> x.step(1, 0, kind, -1));
        }
        check.fails("zone 4 to claim", ARGUMENT, () -> x.step(0, 0, 'c', 4));
        check.fails("zone 4 to free", ARGUMENT, () -> x.step(0, 0, 'f', 4));
        check.fails("spot 2", ARGUMENT, () -> x.step(0, 0, 'w', 2));
        check.fails("place 120", ARGUMENT, () -> x.step(0, 0, 'm', 120));
        for (char kind : new char[] {0, ' ', 'M', 'W', 'C', 'F', 'g', 0x16d, 0xffff}) {
            check.fails("kind " + (int) kind, ARGUMENT, () -> x.step(0, 0, kind, 0));
        }
        check.due("what failed left nothing", 0, () -> x.steps(0, 0));
        for (int i = 1; i <= 12; i++) {
            int due = i;
            check.due("zone " + i % 4, due, () -> x.step(0, 3, due % 2 == 0 ? 'c' : 'f', due % 4));
        }
        check.fails("full for a claim", STATE, () -> x.step(0, 3, 'c', 0));
        check.fails("full for a weld", STATE, () -> x.step(0, 3, 'w', 0));
        check.fails("full for a move", STATE, () -> x.step(0, 3, 'm', 22));
        check.fails("full, and too far", UNSUPPORTED, () -> x.step(0, 3, 'm', 42));
        check.fails("full, and no such zone", ARGUMENT, () -> x.step(0, 3, 'f', 4));
        check.due("full for one variant alone", 1, () -> x.step(0, 2, 'c', 0));
        check.due("twelve, not more", 12, () -> x.erase(0, 3));
        check.due("room again", 1, () -> x.step(0, 3, 'c', 0));
    }

    /** 'w', if the robot is at the place of the spot, otherwise it is left out as it is done. */
    private void welds() {
        Spotbeat x = Lines.twoSpots();
        x.station();
        x.robot(0, 22, 12);
        x.step(0, 0, 'w', 0);
        check.due("the very first step", 1, () -> x.welds(0, 0));
        check.due("covered by the very first step", 1, () -> x.uncovered(0));
        for (int i = 0; i < 10; i++) {
            x.step(0, 0, 'm', i % 2 == 0 ? 51 : 52);
        }
        x.step(0, 0, 'w', 1);
        check.due("the twelfth step", 2, () -> x.welds(0, 0));
        check.due("covered by the twelfth step", 0, () -> x.uncovered(0));
        for (int i = 0; i < 12; i++) {
            x.step(0, 1, 'w', 0);
        }
        check.due("twelve welds", 12, () -> x.welds(0, 1));
        x.step(0, 2, 'm', 52);
        x.step(0, 2, 'w', 0);
        x.step(0, 2, 'm', 22);
        check.due("left out, though it comes there later", 0, () -> x.welds(0, 2));
        check.due("left out, but gone by in the proof", 4, () -> x.states(0, 2));
        check.fails("no robot -1", INDEX, () -> x.welds(-1, 0));
        check.fails("no variant -1", INDEX, () -> x.welds(0, -1));
    }

    // ---- proofs

    /** 'c', if no other robot of the station has the zone; an 'f' of a zone that it has not does nothing. */
    private void zones() {
        for (int zone = 0; zone < 4; zone++) {
            Spotbeat x = Lines.pair(0, 50);
            x.step(0, 0, 'c', zone);
            x.step(1, 0, 'c', (zone + 1) % 4);
            check.due("unlike zones, both kept", 'z', () -> x.proof(0, 0));
            check.due("each at its own pace", 4, () -> x.states(0, 0));
            x.step(1, 0, 'c', zone);
            check.due("the zone kept by the first", 'd', () -> x.proof(0, 0));
        }
        Spotbeat both = Lines.pair(0, 50);
        both.step(0, 0, 'c', 0);
        both.step(0, 0, 'c', 1);
        both.step(0, 0, 'f', 1);
        both.step(1, 0, 'c', 0);
        both.step(1, 0, 'f', 0);
        check.due("the first zone is kept beside the second one", 'd', () -> both.proof(0, 0));
        both.step(0, 0, 'f', 0);
        check.due("freed in the end", 'p', () -> both.proof(0, 0));
        check.due("15 states but those with zone 0 in both hands", 12, () -> both.states(0, 0));
        Spotbeat twice = Lines.pair(0, 50);
        twice.step(0, 0, 'c', 2);
        twice.step(0, 0, 'c', 2);
        twice.step(0, 0, 'f', 2);
        twice.step(1, 0, 'c', 2);
        twice.step(1, 0, 'f', 2);
        check.due("claimed twice, freed by one", 'p', () -> twice.proof(0, 0));
        Spotbeat stations = Lines.bare(2);
        stations.robot(0, 0, 1);
        stations.robot(1, 0, 1);
        stations.step(0, 0, 'c', 0);
        stations.step(1, 0, 'c', 0);
        stations.step(1, 0, 'f', 0);
        check.due("zones are those of the station", 'p', () -> stations.proof(1, 0));
        check.due("and kept there", 'z', () -> stations.proof(0, 0));
        Spotbeat third = Lines.pair(0, 50);
        third.robot(0, 100, 1);
        third.step(2, 0, 'c', 3);
        check.due("the third one ends with a zone", 'z', () -> third.proof(0, 0));
        third.step(0, 0, 'c', 3);
        third.step(0, 0, 'f', 3);
        check.due("the first one waits for the third one for ever", 'd', () -> third.proof(0, 0));
    }

    /** The cells that it sweeps are those along x first, then along y, both places counted. */
    private void meetingsAlongY() {
        check.due("up along y", 'm', () -> proofOfWay(0, 5, 7));
        check.due("up to it", 'm', () -> proofOfWay(0, 5, 5));
        check.due("up to the cell below", 'p', () -> proofOfWay(0, 5, 4));
        check.due("down along y", 'm', () -> proofOfWay(7, 2, 0));
        check.due("down to it", 'm', () -> proofOfWay(7, 2, 2));
        check.due("down to the cell above", 'p', () -> proofOfWay(7, 2, 3));
        check.due("right, then up through it", 'm', () -> proofOfWay(0, 33, 35));
        check.due("right, then up to the cell below", 'p', () -> proofOfWay(0, 33, 32));
        check.due("the corner of the way", 'm', () -> proofOfWay(0, 30, 35));
        check.due("the other corner is not on it", 'p', () -> proofOfWay(0, 5, 35));
        check.due("left, then down through it", 'm', () -> proofOfWay(117, 81, 80));
        check.due("left through it", 'm', () -> proofOfWay(117, 97, 80));
        check.due("not down at once", 'p', () -> proofOfWay(117, 110, 80));
        check.due("beyond it along x", 'p', () -> proofOfWay(0, 40, 35));
    }

    private static char proofOfWay(int from, int other, int to) {
        Spotbeat x = Lines.pair(from, other);
        x.step(0, 0, 'm', to);
        return x.proof(0, 0);
    }

    /** In a state two robots can meet if a cell is held by both: each cell of all that there are is told apart. */
    private void meetingsAllOver() {
        for (int place = 0; place < 118; place++) {
            if (place % 10 > 7) {
                continue;
            }
            int at = place;
            int end = at / 10 * 10 + (at % 10 == 7 ? 0 : 7);
            Spotbeat x = Lines.bare(1);
            x.robot(0, at, 12);
            x.robot(0, at == 0 ? 10 : 0, 12);
            check.due("two in their places, " + at, 'p', () -> x.proof(0, 0));
            x.step(1, 0, 'm', at);
            check.due("onto the one at " + at, 'm', () -> x.proof(0, 0));
            if (at >= 20) {
                x.erase(1, 0);
                x.step(1, 0, 'm', at - 10);
                check.due("beside the one at " + at, 'p', () -> x.proof(0, 0));
                x.erase(1, 0);
                x.step(1, 0, 'm', end);
                char due = at % 10 == 7 ? 'p' : 'm';
                check.due("along the column of " + at, due, () -> x.proof(0, 0));
            }
        }
    }

    /** A cell is held by both only if it is the same one: no two of all places are taken for one. */
    private void meetingsNowhere() {
        for (int one = 0; one < 118; one++) {
            for (int other = 0; other < 118; other++) {
                if (one != other && one % 10 < 8 && other % 10 < 8) {
                    Spotbeat x = Lines.pair(one, other);
                    check.due("at " + one + " and " + other, 'p', () -> x.proof(0, 0));
                }
            }
        }
    }

    /** Where the program ends the robot stays; a robot holds its place, and by an 'm' all that it sweeps. */
    private void meetingsWhereItStays() {
        Spotbeat x = Lines.pair(0, 100);
        x.step(0, 0, 'm', 50);
        x.step(1, 0, 'm', 60);
        check.due("both have ended side by side", 'p', () -> x.proof(0, 0));
        x.step(0, 0, 'c', 0);
        x.step(0, 0, 'f', 0);
        x.step(1, 0, 'm', 50);
        check.due("onto the place where the other one ends", 'm', () -> x.proof(0, 0));
        Spotbeat away = Lines.pair(0, 100);
        away.step(0, 0, 'm', 7);
        away.step(1, 0, 'm', 0);
        check.due("the other one may still be there", 'm', () -> away.proof(0, 0));
        Spotbeat blocked = Lines.pair(0, 100);
        blocked.step(0, 0, 'c', 0);
        blocked.step(0, 0, 'c', 1);
        blocked.step(1, 0, 'c', 1);
        blocked.step(1, 0, 'c', 0);
        blocked.step(1, 0, 'm', 0);
        check.due("m ahead of d", 'm', () -> blocked.proof(0, 0));
        blocked.erase(1, 0);
        blocked.erase(0, 0);
        blocked.step(0, 0, 'c', 0);
        blocked.step(1, 0, 'c', 0);
        blocked.step(0, 0, 'c', 1);
        blocked.step(0, 0, 'm', 10);
        blocked.step(1, 0, 'c', 1);
        check.due("each with its zone, one waits for ever", 'd', () -> blocked.proof(0, 0));
        Spotbeat third = Lines.pair(0, 100);
        third.robot(0, 57, 12);
        third.step(1, 0, 'm', 57);
        check.due("the third one is met where it stays without steps", 'm', () -> third.proof(0, 0));
        Spotbeat inTurns = Lines.pair(0, 100);
        for (int robot = 0; robot < 2; robot++) {
            inTurns.step(robot, 0, 'c', 0);
            inTurns.step(robot, 0, 'm', 50);
            inTurns.step(robot, 0, 'm', 100 * robot);
        }
        check.due("the way into the zone is held from the step behind the claim on", 'd', () -> inTurns.proof(0, 0));
        inTurns.step(0, 0, 'f', 0);
        inTurns.step(1, 0, 'f', 0);
        check.due("states that cannot be reached are not looked at", 'p', () -> inTurns.proof(0, 0));
        inTurns.erase(1, 0);
        inTurns.step(1, 0, 'm', 50);
        check.due("without a claim they are reached", 'm', () -> inTurns.proof(0, 0));
    }

    /** Each proof is of its own station and variant, whatever was proved ahead of it. */
    private void proofsOneAfterAnother() {
        Spotbeat x = Lines.bare(3);
        for (int robot = 0; robot < 3; robot++) {
            x.robot(0, 40 * robot, 12);
            for (int i = 0; i < 12; i++) {
                x.step(robot, 0, i % 2 == 0 ? 'c' : 'm', i % 2 == 0 ? robot : 47);
            }
        }
        x.robot(1, 0, 12);
        x.step(3, 0, 'f', 0);
        check.due("a full station, all meet", 'm', () -> x.proof(0, 0));
        check.due("its states", 2197, () -> x.states(0, 0));
        check.due("an empty one after it", 'p', () -> x.proof(2, 0));
        check.due("its one state", 1, () -> x.states(2, 0));
        check.due("one robot after it", 'p', () -> x.proof(1, 0));
        check.due("its two states", 2, () -> x.states(1, 0));
        check.due("another variant after it", 'p', () -> x.proof(0, 1));
        check.due("nothing but the beginning", 1, () -> x.states(0, 1));
        x.step(0, 2, 'c', 0);
        x.step(1, 2, 'c', 0);
        check.due("a deadlock", 'd', () -> x.proof(0, 2));
        check.due("none of it after it", 'p', () -> x.proof(0, 3));
        check.due("the first once more", 'm', () -> x.proof(0, 0));
        check.due("with all its states", 2197, () -> x.states(0, 0));
        x.order(0);
        Lines.beats(x, 2);
        check.due("a line in step changes no proof", 'd', () -> x.proof(0, 2));
    }

    /** A state is how far each one is: with 12 steps each there are 13 times 13 times 13. */
    private void statesOfFullPrograms() {
        Spotbeat x = Lines.bare(1);
        int due = 1;
        for (int robot = 0; robot < 3; robot++) {
            x.robot(0, 50 * robot, 12);
            for (int i = 1; i <= 12; i++) {
                x.step(robot, 0, 'm', 50 * robot);
                int states = due * (i + 1);
                check.due("robot " + robot + " with steps " + i, states, () -> x.states(0, 0));
            }
            due *= 13;
        }
        check.due("each goes on its own place", 'p', () -> x.proof(0, 0));
        x.erase(0, 0);
        x.erase(1, 0);
        x.erase(2, 0);
        for (int robot = 0; robot < 3; robot++) {
            x.step(robot, 0, 'c', 0);
            for (int i = 0; i < 10; i++) {
                x.step(robot, 0, 'f', 1);
            }
            x.step(robot, 0, 'f', 0);
        }
        // None in the zone: each at 0 or 12; one in it: 11 paces of three, the others at 0 or 12.
        check.due("one in the zone at a time", 8 + 3 * 11 * 4, () -> x.states(0, 0));
        check.due("which is a proof", 'p', () -> x.proof(0, 0));
        for (int number : new int[] {-1, 1, 4, LEAST, MOST}) {
            check.fails("no station " + number, INDEX, () -> x.states(number, 0));
            check.fails("no proof of station " + number, INDEX, () -> x.proof(number, 0));
        }
        for (int number : new int[] {-1, 4, 32, LEAST, MOST}) {
            check.fails("no variant " + number, INDEX, () -> x.states(0, number));
            check.fails("no proof of variant " + number, INDEX, () -> x.proof(0, number));
        }
    }

    /** How many spots of a variant no program has as a weld. */
    private void uncovered() {
        Spotbeat none = new Spotbeat();
        check.due("no spots", 0, () -> none.uncovered(0));
        check.due("none to deal", 0, () -> none.deal(3));
        Spotbeat x = new Spotbeat();
        x.panel(0);
        x.panel(0);
        for (int i = 0; i < 24; i++) {
            x.spot(0, 1, 0, 8, 1, false);
        }
        check.due("all 24", 24, () -> x.uncovered(3));
        check.due("of another variant none", 0, () -> x.uncovered(2));
        for (int i = 0; i < 4; i++) {
            x.station();
            for (int robot = 0; robot < 3; robot++) {
                x.robot(i, robot, 12);
            }
        }
        x.step(11, 3, 'm', 0);
        x.step(11, 3, 'w', 23);
        check.due("the last spot by the last robot", 23, () -> x.uncovered(3));
        x.step(11, 3, 'w', 23);
        x.step(0, 3, 'w', 23);
        check.due("a spot counts once", 23, () -> x.uncovered(3));
        x.erase(11, 3);
        check.due("the other one has it still", 23, () -> x.uncovered(3));
        x.erase(0, 3);
        check.due("as at first", 24, () -> x.uncovered(3));
    }

    /** The fewest steps, of several the lowest number; none, if this one has more than 10 steps, or there is none. */
    private void deals() {
        Spotbeat x = new Spotbeat();
        x.panel(0);
        x.panel(0);
        for (int i = 0; i < 24; i++) {
            x.spot(0, 1, 117, 1, 1, true);
        }
        x.station();
        x.robot(0, 110, 12);
        check.due("one robot takes six", 6, () -> x.deal(0));
        check.due("until it is full", 12, () -> x.steps(0, 0));
        check.due("no more then", 0, () -> x.deal(0));
        check.due("its welds", 6, () -> x.welds(0, 0));
        check.due("what is left", 18, () -> x.uncovered(0));
        x.robot(0, 111, 12);
        x.robot(0, 112, 12);
        check.due("two take twelve", 12, () -> x.deal(0));
        check.due("the second is full", 12, () -> x.steps(1, 0));
        check.due("the third is full", 12, () -> x.steps(2, 0));
        check.due("the rest is left", 6, () -> x.uncovered(0));
        x.erase(0, 0);
        for (int i = 0; i < 11; i++) {
            x.step(0, 0, 'f', 0);
        }
        check.due("eleven steps are more than 10", 0, () -> x.deal(0));
        x.erase(0, 0);
        for (int i = 0; i < 10; i++) {
            x.step(0, 0, 'f', 0);
        }
        check.due("ten are not", 1, () -> x.deal(0));
        check.due("the m and the w", 12, () -> x.steps(0, 0));
        check.due("as a weld", 1, () -> x.welds(0, 0));
        x.erase(0, 0);
        x.step(0, 0, 'm', 117);
        x.step(0, 0, 'w', 0);
        x.step(0, 0, 'm', 116);
        x.step(0, 0, 'w', 1);
        check.due("the first is made, the next left out", 4, () -> x.deal(0));
        check.due("dealt by numbers behind what was there", 5, () -> x.welds(0, 0));
    }

    /** Of the first station alone, if the spot holds the shape, otherwise of any. */
    private void dealsBesidesOthers() {
        Spotbeat x = Lines.twoSpots();
        x.station();
        x.station();
        x.robot(1, 22, 1);
        x.robot(1, 52, 12);
        check.due("no robot at the first station", 1, () -> x.deal(0));
        check.due("the nearer one does not reach it", 0, () -> x.steps(0, 0));
        check.due("the r spot at the second one", 2, () -> x.steps(1, 0));
        x.robot(0, 22, 1);
        x.step(2, 0, 'f', 0);
        check.due("the g spot at the first one, though longer", 1, () -> x.deal(0));
        check.due("behind the step that was there", 3, () -> x.steps(2, 0));
        x.die(2, true);
        x.die(1, true);
        check.due("dead ones are dealt to, too", 2, () -> x.deal(1));
        check.due("the dead one of the first station", 2, () -> x.steps(2, 1));
        x.robot(0, 62, 12);
        check.due("the next variant", 2, () -> x.deal(2));
        check.due("g to the lowest number of the first station", 2, () -> x.steps(2, 2));
        check.due("r to the lowest number of any", 2, () -> x.steps(1, 2));
        check.due("none to the higher one", 0, () -> x.steps(3, 2));
        for (int i = 0; i < 11; i++) {
            x.step(2, 3, 'f', 0);
            x.step(3, 3, 'f', 0);
        }
        check.due("the g spot finds none, the r spot one", 1, () -> x.deal(3));
        check.due("the g spot is left", 1, () -> x.uncovered(3));
        for (int variant : new int[] {-1, 4, 32, LEAST, MOST}) {
            check.fails("no variant " + variant, INDEX, () -> x.deal(variant));
            check.fails("none uncovered " + variant, INDEX, () -> x.uncovered(variant));
        }
    }

    // ---- the line

    /** Bodies are numbered from 0 as they are ordered, each of a variant, at most 40; they come in their order. */
    private void orders() {
        Spotbeat x = Lines.bare(1);
        for (int i = 0; i < 40; i++) {
            int due = i;
            check.due("body " + i, due, () -> x.order(3 - due % 4));
        }
        check.fails("full", STATE, () -> x.order(0));
        check.fails("full, and no such variant", INDEX, () -> x.order(4));
        check.fails("full, and below", INDEX, () -> x.order(-1));
        check.due("all wait", 40, () -> x.waiting());
        for (int i = 0; i < 40; i++) {
            int due = i;
            check.due("off the line", due == 0 ? 0 : 1, () -> x.beat());
            check.due("at the station in their order", due, () -> x.at(0));
            check.due("waiting still", 39 - due, () -> x.waiting());
        }
        check.due("the last one off", 1, () -> x.beat());
        check.due("none any more", 0, () -> x.beat());
        check.fails("none there", NO_ELEMENT, () -> x.at(0));
        check.due("the last one's place", -2, () -> x.where(39));
        check.fails("full, though all are off", STATE, () -> x.order(0));
        check.fails("no body 40", INDEX, () -> x.where(40));
        check.due("42 beats", 42, () -> x.beats());
    }

    /** From the last station to the first one: so none goes two stations far in one beat. */
    private void longestLine() {
        Spotbeat x = Lines.bare(4);
        for (int i = 0; i < 5; i++) {
            x.order(i % 4);
        }
        for (int beat = 0; beat < 4; beat++) {
            int due = beat;
            check.due("none comes off", 0, () -> x.beat());
            for (int body = 0; body < 5; body++) {
                int of = body;
                check.due("body " + of + " after beat " + due, of > due ? -1 : due - of, () -> x.where(of));
            }
        }
        check.due("the first one comes off", 1, () -> x.beat());
        check.due("off", -2, () -> x.where(0));
        for (int station = 0; station < 4; station++) {
            int at = station;
            check.due("all have moved", 4 - at, () -> x.at(at));
        }
        for (int i = 0; i < 4; i++) {
            check.due("one each beat", 1, () -> x.beat());
        }
        check.due("the line is empty", 0, () -> x.beat());
        check.fails("no body there", NO_ELEMENT, () -> x.at(3));
        for (int number : new int[] {-1, 4, LEAST, MOST}) {
            check.fails("no station " + number, INDEX, () -> x.at(number));
            check.fails("none to stand " + number, INDEX, () -> x.stand(number, true));
            check.fails("no letters of " + number, INDEX, () -> x.letters(number, 'w'));
        }
        for (int number : new int[] {-1, 5, 40, LEAST, MOST}) {
            check.fails("no body " + number, INDEX, () -> x.where(number));
        }
    }

    /** If the next station is empty, whether that stands or not; to the first station, also if it stands. */
    private void lineThatStands() {
        Spotbeat x = Lines.oneRobot();
        x.station();
        x.stand(0, true);
        x.stand(1, true);
        x.order(0);
        x.order(0);
        check.due("nothing comes off", 0, () -> x.beat());
        check.due("to the first station, though it stands", 0, () -> x.where(0));
        x.beat();
        check.due("one alone", -1, () -> x.where(1));
        check.due("not worked", 2, () -> x.lacks(0));
        x.stand(0, false);
        x.beat();
        check.due("worked", 0, () -> x.lacks(0));
        check.due("to the second station, though it stands", 1, () -> x.where(0));
        check.due("and the next one came", 0, () -> x.where(1));
        x.beat();
        check.due("worked, though it cannot go on", 0, () -> x.lacks(1));
        x.stand(1, false);
        check.due("both go on in one beat", 1, () -> x.beat());
        check.due("the second one", 1, () -> x.where(1));
        x.stand(1, true);
        Lines.beats(x, 3);
        check.due("a standing last station lets none off", 1, () -> x.where(1));
        check.due("nor what is empty ahead of it", -2, () -> x.where(0));
        x.stand(1, false);
        check.due("off at last", 1, () -> x.beat());
    }

    /** A station added at the end of the line: what is at the last one till then goes on to it. */
    private void lineThatGrows() {
        Spotbeat x = new Spotbeat();
        x.order(0);
        check.fails("no stations", UNSUPPORTED, () -> x.beat());
        check.due("it waits on", -1, () -> x.where(0));
        check.due("no beat", 0, () -> x.beats());
        for (int i = 0; i < 4; i++) {
            int due = i;
            check.due("a station", due, () -> x.station());
            check.due("none comes off", 0, () -> x.beat());
            check.due("on to the new one", due, () -> x.where(0));
            check.due("letters of the new one sum to the beats since", 1, () -> x.letters(due, 'e'));
            check.due("sound", true, () -> x.isSound());
        }
        check.fails("no fifth one", STATE, () -> x.station());
        check.due("off", 1, () -> x.beat());
        check.due("letters of the first one", 5, () -> x.letters(0, 'e') + x.letters(0, 'w'));
    }

    /** In each beat each station has a letter: 's', 'e', 'b', otherwise 'w'. */
    private void letters() {
        Spotbeat x = Lines.bare(2);
        for (char letter : new char[] {'s', 'e', 'b', 'w'}) {
            check.due("none of " + letter, 0, () -> x.letters(1, letter));
        }
        for (char letter : new char[] {0, 'S', 'E', 'B', 'W', 'a', 0x173, 0xffff}) {
            check.fails("no letter " + (int) letter, ARGUMENT, () -> x.letters(0, letter));
            check.fails("nor a station", INDEX, () -> x.letters(2, letter));
        }
        x.order(0);
        x.stand(0, true);
        x.beat();
        check.due("stands and gets a body", 1, () -> x.letters(0, 's'));
        x.stand(0, false);
        x.stand(1, true);
        x.beat();
        check.due("worked and gone on", 1, () -> x.letters(0, 'w'));
        check.due("stands, empty ahead of the beat", 1, () -> x.letters(1, 's'));
        x.order(0);
        x.beat();
        check.due("empty ahead of the beat, with a body after it", 1, () -> x.letters(0, 'e'));
        x.beat();
        check.due("worked in this beat, and kept", 1, () -> x.letters(0, 'b'));
        x.beat();
        check.due("worked in an earlier beat, and kept", 2, () -> x.letters(0, 'b'));
        x.order(0);
        x.stand(1, false);
        x.beat();
        check.due("has another one at the end of the beat", 2, () -> x.letters(0, 'w'));
        check.due("which came as it was empty", 2, () -> x.at(0));
        check.due("stood four times", 4, () -> x.letters(1, 's'));
        check.due("its body went off", 1, () -> x.letters(1, 'w'));
        check.due("no b of it", 0, () -> x.letters(1, 'b'));
    }

    /** The programs of its robots, each to its end, robots by numbers; claims are not looked at. */
    private void workOrder() {
        Spotbeat x = Lines.twoSpots();
        x.station();
        x.robot(0, 52, 12);
        x.robot(0, 22, 12);
        x.step(0, 0, 'w', 1);
        x.step(1, 0, 'w', 0);
        x.step(1, 0, 'm', 52);
        x.step(1, 0, 'w', 1);
        x.order(0);
        Lines.beats(x, 2);
        check.due("the r spot by the first one was ahead of the g spot", 1, () -> x.maker(0, 1));
        check.due("the first one made none", 0, () -> x.made(0));
        check.due("but its tip wore", 5, () -> x.wear(0));
        check.due("the second one, to its end", 2, () -> x.made(1));
        x.erase(0, 0);
        x.erase(1, 0);
        x.step(0, 0, 'c', 0);
        x.step(0, 0, 'm', 22);
        x.step(0, 0, 'w', 0);
        x.step(1, 0, 'c', 0);
        x.step(1, 0, 'm', 52);
        x.step(1, 0, 'w', 1);
        check.due("a zone kept", 'm', () -> x.proof(0, 0));
        x.order(0);
        Lines.beats(x, 2);
        check.due("claims stop none of it", 0, () -> x.lacks(1));
        x.order(1);
        Lines.beats(x, 2);
        check.due("no program for the variant", 2, () -> x.lacks(2));
        x.erase(0, 0);
        for (int i = 0; i < 11; i++) {
            x.step(0, 0, 'm', 22);
        }
        x.step(0, 0, 'w', 0);
        x.order(0);
        Lines.beats(x, 2);
        check.due("the twelfth step is run", 0, () -> x.maker(3, 0));
    }

    // ---- welds, tips

    /** Good if the current, less a fifth of the wear, cut, is at least the need; and no 'g' spot lacks any more. */
    private void goodWelds() {
        for (int need = 1; need <= 9; need++) {
            Spotbeat x = new Spotbeat();
            x.panel(0);
            x.panel(0);
            x.spot(0, 1, 0, 1, need, true);
            x.station();
            x.robot(0, 0, 1);
            x.step(0, 0, 'w', 0);
            x.current(0, need);
            x.order(0);
            x.order(0);
            Lines.beats(x, 2);
            check.due("the current is the need " + need, 0, () -> x.lacks(0));
            x.change(0);
            if (need > 1) {
                x.current(0, need - 1);
                x.beat();
                check.due("the current is below the need " + need, 1, () -> x.lacks(1));
            }
        }
        Spotbeat x = Lines.oneRobot();
        x.spot(0, 1, 0, 2, 1, true);
        x.order(0);
        Lines.beats(x, 2);
        check.due("a g spot of another variant is not asked for", 0, () -> x.lacks(0));
        x.spot(0, 1, 0, 1, 1, true);
        x.order(0);
        Lines.beats(x, 2);
        check.due("a g spot without a weld keeps the r spots lacking", 2, () -> x.lacks(1));
        check.due("the first g spot is made", 0, () -> x.maker(1, 0));
        check.due("the r spot is not", true, () -> x.isLacking(1, 1));
        check.due("the new g spot is not", true, () -> x.isLacking(1, 3));
        Spotbeat noG = new Spotbeat();
        noG.panel(0);
        noG.panel(0);
        noG.spot(0, 1, 0, 1, 1, false);
        noG.station();
        noG.robot(0, 0, 1);
        noG.step(0, 0, 'w', 0);
        noG.order(0);
        Lines.beats(noG, 2);
        check.due("a body without g spots lacks none", 0, () -> noG.lacks(0));
    }

    /** It adds the need to the wear, good or not; a fifth of the wear, cut. */
    private void wear() {
        Spotbeat x = new Spotbeat();
        x.panel(0);
        x.panel(0);
        x.spot(0, 1, 0, 15, 1, true);
        x.station();
        x.robot(0, 0, 1);
        x.current(0, 1);
        for (int i = 0; i < 12; i++) {
            x.step(0, 0, 'w', 0);
        }
        x.step(0, 1, 'w', 0);
        x.order(0);
        Lines.beats(x, 2);
        check.due("wear 0 to 4 takes nothing, 5 takes one", 5, () -> x.made(0));
        check.due("all of them wear", 12, () -> x.wear(0));
        x.change(0);
        x.current(0, 2);
        x.order(0);
        Lines.beats(x, 2);
        check.due("wear 9 takes one, 10 takes two", 15, () -> x.made(0));
        check.due("the wear of twelve", 12, () -> x.wear(0));
        x.current(0, 3);
        x.order(1);
        Lines.beats(x, 2);
        check.due("wear 12 takes two of three", 16, () -> x.made(0));
        check.due("and it is 13", 13, () -> x.wear(0));
        x.order(1);
        x.order(1);
        x.order(1);
        Lines.beats(x, 4);
        check.due("13 and 14 still, 15 no more", 18, () -> x.made(0));
        check.due("the last one lacks it", 1, () -> x.lacks(5));
        x.current(0, 1);
        for (int i = 0; i < 3; i++) {
            x.order(0);
            Lines.beats(x, 2);
        }
        check.due("wear far beyond the current", 52, () -> x.wear(0));
        check.due("makes nothing", 18, () -> x.made(0));
        check.fails("no robot 1", INDEX, () -> x.wear(1));
        check.fails("no robot below", INDEX, () -> x.wear(LEAST));
    }

    /** To dress a tip takes its wear to 0; a tip can be dressed 5 times, then it is to be changed first. */
    private void dressing() {
        Spotbeat x = Lines.oneRobot();
        x.robot(0, 0, 1);
        for (int left = 4; left >= 0; left--) {
            int due = left;
            x.order(0);
            Lines.beats(x, 2);
            check.due("worn", 9, () -> x.wear(0));
            check.due("left " + left, due, () -> x.dress(0));
            check.due("not worn", 0, () -> x.wear(0));
        }
        check.fails("a sixth time, without wear", UNSUPPORTED, () -> x.dress(0));
        x.order(0);
        Lines.beats(x, 2);
        check.fails("a sixth time, with wear", UNSUPPORTED, () -> x.dress(0));
        check.due("which is left as it is", 9, () -> x.wear(0));
        check.due("the other one's tip", 4, () -> x.dress(1));
        check.due("changed", 5, () -> x.change(0));
        check.due("the new one has no wear", 0, () -> x.wear(0));
        check.due("the new one was never dressed", 0, () -> x.change(0));
        check.due("five times again", 4, () -> x.dress(0));
        check.due("changed ahead of the fifth time", 1, () -> x.change(0));
        check.due("the welds stay", 12, () -> x.made(0));
        for (int number : new int[] {-1, 2, 12, LEAST, MOST}) {
            check.fails("none to dress " + number, INDEX, () -> x.dress(number));
            check.fails("none to change " + number, INDEX, () -> x.change(number));
            check.fails("none made " + number, INDEX, () -> x.made(number));
            check.fails("none to die " + number, INDEX, () -> x.die(number, true));
            check.fails("none stands in " + number, INDEX, () -> x.standIn(number, 0));
        }
    }

    /** For a dead one its stand-in does so, if one is told, not dead, and reaches the spot's place. */
    private void standIns() {
        Spotbeat x = Lines.oneRobot();
        x.robot(0, 20, 2);
        x.robot(0, 110, 12);
        x.die(0, true);
        x.order(0);
        Lines.beats(x, 2);
        check.due("none is told", 2, () -> x.lacks(0));
        x.standIn(0, 1);
        x.die(1, true);
        x.standIn(1, 2);
        x.order(0);
        Lines.beats(x, 2);
        check.due("a dead one, whose own stand-in is not asked", 2, () -> x.lacks(1));
        x.die(1, false);
        x.order(0);
        Lines.beats(x, 2);
        check.due("reaches the one at its very end", 1, () -> x.maker(2, 0));
        check.due("not the one beyond it", true, () -> x.isLacking(2, 1));
        check.due("whose weld wears nothing", 4, () -> x.wear(1));
        x.standIn(0, 2);
        x.current(0, 1);
        x.order(0);
        Lines.beats(x, 2);
        check.due("with its own current", 0, () -> x.lacks(3));
        x.standIn(0, -1);
        x.order(0);
        Lines.beats(x, 2);
        check.due("none is told any more", 2, () -> x.lacks(4));
        x.standIn(0, 2);
        x.die(0, false);
        x.order(0);
        Lines.beats(x, 2);
        check.due("alive, it is asked itself", 2, () -> x.lacks(5));
        check.due("which wears its own tip", 9, () -> x.wear(0));
        check.fails("itself, told ahead", ARGUMENT, () -> x.standIn(0, 0));
        check.due("unchanged by it", 2, () -> x.standIn(0, -1));
        check.fails("-2 is not none", INDEX, () -> x.standIn(0, -2));
        check.fails("no robot 3", INDEX, () -> x.standIn(0, 3));
        check.fails("both are the same, but there is none", INDEX, () -> x.standIn(3, 3));
        check.fails("both -1", INDEX, () -> x.standIn(-1, -1));
        check.due("nobody yet", -1, () -> x.standIn(0, 1));
    }

    // ---- bodies

    /** A body lacks each spot of its variant that there is, also one told later, till a weld of it is good. */
    private void lacking() {
        Spotbeat x = Lines.bare(1);
        x.order(0);
        check.due("no spots", 0, () -> x.lacks(0));
        check.fails("no first one", NO_ELEMENT, () -> x.firstLacking(0));
        check.fails("no spot 0", INDEX, () -> x.isLacking(0, 0));
        x.panel(0);
        x.panel(0);
        for (int i = 0; i < 23; i++) {
            x.spot(0, 1, 0, 2, 1, false);
        }
        check.due("none of its variant", 0, () -> x.lacks(0));
        check.fails("still no first one", NO_ELEMENT, () -> x.firstLacking(0));
        x.beat();
        x.spot(0, 1, 0, 3, 1, false);
        check.due("one told as it is on the line", 1, () -> x.lacks(0));
        check.due("the last spot is the first one", 23, () -> x.firstLacking(0));
        check.due("it lacks it", true, () -> x.isLacking(0, 23));
        check.due("not one that is not its variant's", false, () -> x.isLacking(0, 22));
        x.order(1);
        check.due("as it waits, all 24", 24, () -> x.lacks(1));
        check.due("the first of them", 0, () -> x.firstLacking(1));
        for (int number : new int[] {-1, 2, 40, LEAST, MOST}) {
            check.fails("no body " + number, INDEX, () -> x.lacks(number));
            check.fails("none that lacks " + number, INDEX, () -> x.isLacking(number, 0));
            check.fails("no first one of " + number, INDEX, () -> x.firstLacking(number));
            check.fails("none to measure " + number, INDEX, () -> x.measure(number));
            check.fails("none to mend " + number, INDEX, () -> x.mend(number, 0));
            check.fails("no maker for " + number, INDEX, () -> x.maker(number, 0));
        }
        for (int number : new int[] {-1, 24, LEAST, MOST}) {
            check.fails("no spot " + number, INDEX, () -> x.isLacking(0, number));
            check.fails("no spot to mend " + number, INDEX, () -> x.mend(0, number));
            check.fails("no spot to make " + number, INDEX, () -> x.maker(0, number));
        }
    }

    /** A spot can be made by hand off the line; the measure stays. */
    private void mending() {
        Spotbeat x = new Spotbeat();
        x.panel(0);
        x.panel(0);
        for (int i = 0; i < 24; i++) {
            x.spot(0, 1, 0, 15, 1, i % 2 == 0);
        }
        x.station();
        x.station();
        x.order(0);
        check.fails("it waits", UNSUPPORTED, () -> x.mend(0, 23));
        x.beat();
        check.fails("at the first station", UNSUPPORTED, () -> x.mend(0, 23));
        x.beat();
        check.fails("at the last station", UNSUPPORTED, () -> x.mend(0, 23));
        check.due("off", 1, () -> x.beat());
        for (int i = 23; i >= 0; i--) {
            int spot = i;
            check.due("the lowest one", 0, () -> x.firstLacking(0));
            check.due("left of them", spot, () -> x.mend(0, spot));
            check.due("by hand", -1, () -> x.maker(0, spot));
            check.fails("not twice", UNSUPPORTED, () -> x.mend(0, spot));
        }
        check.fails("none is lacking", NO_ELEMENT, () -> x.firstLacking(0));
        check.due("whole", 1, () -> x.whole());
        check.due("the measure of 12 times 5", 60, () -> x.measure(0));
        check.due("sound", true, () -> x.isSound());
        check.due("what the sum is by then", 31L * 7 - 2 + 60, () -> x.checksum());
    }

    /** One that it does not lack any more is welded all the same, its maker staying who made it first. */
    private void makers() {
        Spotbeat x = Lines.oneRobot();
        x.station();
        x.robot(1, 22, 12);
        x.step(1, 0, 'w', 0);
        x.step(1, 0, 'm', 52);
        x.step(1, 0, 'w', 1);
        x.order(0);
        check.fails("as it waits", NO_ELEMENT, () -> x.maker(0, 0));
        Lines.beats(x, 3);
        check.due("robot 0 stays", 0, () -> x.maker(0, 0));
        check.due("robot 1 has made them, too", 2, () -> x.made(1));
        check.due("and worn its tip", 9, () -> x.wear(1));
        x.change(0);
        x.current(0, 4);
        x.order(0);
        Lines.beats(x, 3);
        check.due("what the first one could not, the next one does", 1, () -> x.maker(1, 1));
        check.due("what it could stays", 0, () -> x.maker(1, 0));
        x.die(0, true);
        x.standIn(0, 1);
        x.order(0);
        Lines.beats(x, 3);
        check.due("the stand-in is the maker, not the dead one", 1, () -> x.maker(2, 0));
        x.spot(0, 1, 0, 2, 1, true);
        check.fails("not of its variant", NO_ELEMENT, () -> x.maker(2, 2));
        check.fails("no spot 3", INDEX, () -> x.maker(2, 3));
    }

    // ---- measures, figures

    /** Its measure is the sum of offsets of all stations, and 4 for each 'g' spot that it lacks, and 1 for each 'r' one. */
    private void measures() {
        Spotbeat x = new Spotbeat();
        x.panel(0);
        x.panel(0);
        for (int i = 0; i < 24; i++) {
            x.spot(0, 1, 0, 1, 1, true);
        }
        for (int i = 0; i < 4; i++) {
            int station = i;
            x.station();
            check.due("0 at first", 0, () -> x.offset(station, 99));
            check.fails("100", ARGUMENT, () -> x.offset(station, 100));
            check.fails("-100", ARGUMENT, () -> x.offset(station, -100));
        }
        x.order(0);
        x.order(1);
        Lines.beats(x, 5);
        check.due("as large as it can be", 4 * 99 + 4 * 24, () -> x.measure(0));
        for (int i = 0; i < 4; i++) {
            int station = i;
            check.due("the one before", 99, () -> x.offset(station, -99));
        }
        x.beat();
        check.due("as small as it can be", -4 * 99, () -> x.measure(1));
        check.due("the earlier one's stays", 492, () -> x.measure(0));
        check.due("the mean of both", 48.0, () -> x.meanMeasure());
        check.due("fed back within the bounds", -99, () -> x.feedBack(0, 2));
        check.due("and from the other one up to them", 99, () -> x.feedBack(1, 1));
        check.due("sum of both", 31L * (31 * 7 - 2 + 24 + 492) - 2 + 0 - 396, () -> x.checksum());
        for (int number : new int[] {-1, 4, LEAST, MOST}) {
            check.fails("no offset of " + number, INDEX, () -> x.offset(number, 100));
            check.fails("none to feed back to " + number, INDEX, () -> x.feedBack(number, 0));
        }
    }

    /** The last bodies off the line, so many as told or all that there are; within its bounds. */
    private void feedingBack() {
        Spotbeat x = Lines.bare(1);
        check.fails("none is off", NO_ELEMENT, () -> x.feedBack(0, 9));
        check.fails("none is off, and 0 bodies", ARGUMENT, () -> x.feedBack(0, 0));
        check.fails("none is off, and 10 bodies", ARGUMENT, () -> x.feedBack(0, 10));
        check.fails("bodies far below", ARGUMENT, () -> x.feedBack(0, LEAST));
        check.fails("bodies far above", ARGUMENT, () -> x.feedBack(0, MOST));
        x.order(0);
        x.beat();
        check.fails("one on the line is not off", NO_ELEMENT, () -> x.feedBack(0, 1));
        for (int i = 1; i <= 10; i++) {
            x.order(0);
            x.offset(0, 4 * i);
            x.beat();
        }
        // The measures are 4, 8, .. 40: of the last n the mean is 40 - 2 * (n - 1).
        for (int bodies = 1; bodies <= 9; bodies++) {
            int of = bodies;
            x.offset(0, 0);
            check.due("of the last " + of, -(40 - 2 * (of - 1)) / 2, () -> x.feedBack(0, of));
        }
        x.offset(0, -90);
        check.due("down to -99", -99, () -> x.feedBack(0, 1));
        check.due("and no farther", -99, () -> x.feedBack(0, 1));
        x.offset(0, -79);
        check.due("to -99 just so", -99, () -> x.feedBack(0, 1));
        x.offset(0, -78);
        check.due("one short of it", -98, () -> x.feedBack(0, 1));
        check.due("the measure of what is off stays", 40, () -> x.measure(9));
    }

    /** The mean, cut toward 0, and half of it, cut toward 0. */
    private void feedingBackCuts() {
        int[][] cases = {
            // Two measures, and what is taken from the offset.
            {0, 0, 0}, {1, 0, 0}, {1, 1, 0}, {1, 2, 0}, {2, 2, 1}, {2, 1, 0}, {3, 2, 1}, {3, 3, 1}, {4, 3, 1}, {4, 4, 2},
            {-1, 0, 0}, {-1, -1, 0}, {-1, -2, 0}, {-2, -2, -1}, {-3, -2, -1}, {-3, -3, -1}, {-4, -3, -1}, {-4, -4, -2},
            {-5, 4, 0}, {-9, 2, -1}, {9, -2, 1}, {-7, -8, -3}, {7, 8, 3}, {99, 98, 49}, {-99, -98, -49},
        };
        for (int[] numbers : cases) {
            Spotbeat x = Lines.bare(1);
            x.order(0);
            x.order(0);
            x.beat();
            x.offset(0, numbers[0]);
            x.beat();
            x.offset(0, numbers[1]);
            x.beat();
            x.offset(0, 10);
            check.due("of " + numbers[0] + " and " + numbers[1], 10 - numbers[2], () -> x.feedBack(0, 2));
        }
    }

    /** 7 at first, then for each body, in one step, 31 times itself, plus where it is, and so on, and its wrap-around. */
    private void checksums() {
        Spotbeat x = Lines.bare(1);
        check.due("7 at first", 7L, () -> x.checksum());
        long sum = 7;
        for (int i = 0; i < 40; i++) {
            x.order(0);
            sum = 31 * sum - 1;
            long due = sum;
            check.due("with " + (i + 1) + " that wait", due, () -> x.checksum());
        }
        x.offset(0, -99);
        Lines.beats(x, 41);
        sum = 7;
        for (int i = 0; i < 40; i++) {
            sum = 31 * sum - 2 - 99;
        }
        long due = sum;
        check.due("all off, round and round", due, () -> x.checksum());
    }

    /** Divided by that of all off the line; none is off the line. */
    private void shares() {
        Spotbeat x = Lines.oneRobot();
        check.fails("no bodies", NO_ELEMENT, () -> x.wholeShare());
        check.fails("no bodies to measure", NO_ELEMENT, () -> x.meanMeasure());
        x.order(1);
        check.fails("one that waits", NO_ELEMENT, () -> x.wholeShare());
        x.beat();
        check.fails("one on the line", NO_ELEMENT, () -> x.meanMeasure());
        check.due("none is whole", 0, () -> x.whole());
        x.beat();
        check.due("none of one", 0.0f, () -> x.wholeShare());
        check.due("its measure", 5.0, () -> x.meanMeasure());
        x.mend(0, 0);
        check.due("lacks one still", 0.0f, () -> x.wholeShare());
        x.mend(0, 1);
        check.due("one of one", 1.0f, () -> x.wholeShare());
        check.due("its measure stays", 5.0, () -> x.meanMeasure());
        x.offset(0, -5);
        x.order(1);
        Lines.beats(x, 2);
        check.due("one of two", 0.5f, () -> x.wholeShare());
        check.due("5 and 0", 2.5, () -> x.meanMeasure());
        x.offset(0, -99);
        x.order(0);
        Lines.beats(x, 2);
        check.due("two of three", 2 / 3f, () -> x.wholeShare());
        check.due("5, 0 and -99", -94 / 3.0, () -> x.meanMeasure());
        x.spot(0, 1, 0, 15, 1, true);
        check.due("a spot told later makes none whole", 0.0f, () -> x.wholeShare());
        check.due("but changes no measure", -94 / 3.0, () -> x.meanMeasure());
    }

    /** Each station has one body at most, later ones never ahead of earlier ones, letters sum to the beats. */
    private void sound() {
        check.due("without anything", true, () -> new Spotbeat().isSound());
        Spotbeat x = Lines.bare(1);
        Lines.beats(x, 3);
        x.station();
        check.due("a station without letters yet", true, () -> x.isSound());
        for (int i = 0; i < 40; i++) {
            x.order(i % 4);
        }
        check.due("all wait", true, () -> x.isSound());
        for (int i = 0; i < 45; i++) {
            x.stand(i % 2, i % 5 == 0);
            x.beat();
            check.due("after beat " + i, true, () -> x.isSound());
        }
    }

    /** An object is used for at most 512 calls after it has been made: the last one is answered like the first. */
    private void lastCalls() {
        Spotbeat x = Lines.bare(4);
        for (int i = 4; i < 511; i++) {
            x.beat();
        }
        check.due("the last call", 507, () -> x.beats());
        Spotbeat worn = new Spotbeat();
        worn.panel(0);
        worn.panel(0);
        worn.spot(0, 1, 0, 15, 9, true);
        worn.station();
        for (int robot = 0; robot < 3; robot++) {
            worn.robot(0, robot, 12);
            for (int i = 0; i < 11; i++) {
                worn.step(robot, 0, i == 0 ? 'm' : 'w', 0);
            }
        }
        for (int i = 0; i < 40; i++) {
            worn.order(0);
        }
        Lines.beats(worn, 41);
        check.due("wear of all bodies", 40 * 10 * 9, () -> worn.wear(2));
        check.due("good with 12, 11 and 9, then with 7 no more", 3, () -> worn.made(0));
    }
}
