import java.util.NoSuchElementException;

/** A line on which robots weld car bodies, beat by beat. */
public final class Spotbeat {
    private static final int VARIANTS = 4;
    private static final int PANELS = 8;
    private static final int SPOTS = 24;
    private static final int STATIONS = 4;
    private static final int CREW = 3;
    private static final int ROBOTS = 12;
    private static final int STEPS = 12;
    private static final int PACES = STEPS + 1;
    private static final int ZONES = 4;
    private static final int BODIES = 40;
    private static final int DRESSINGS = 5;
    private static final int WIDTH = 12;
    private static final int HEIGHT = 8;
    private static final int MOST_REACH = 12;
    private static final int MOST_CURRENT = 30;
    private static final int MOST_NEED = 9;
    private static final int MOST_OFFSET = 99;
    private static final int MOST_FED_BACK = 9;
    private static final int ALL_VARIANTS = 15;
    private static final int NONE = -1;
    private static final int WAITS = -1;
    private static final int OFF_LINE = -2;
    private static final int BY_HAND = -1;
    private static final int NOT_MADE = -2;

    private final int[] parents;
    private final Spot[] spotRow;
    private final Station[] stationRow;
    private final Robot[] robotRow;
    private final Body[] bodyRow;
    private final Paces paces;
    private int panelCount;
    private int spotCount;
    private int stationCount;
    private int robotCount;
    private int bodyCount;
    private int beatCount;

    public Spotbeat() {
        parents = new int[PANELS];
        spotRow = new Spot[SPOTS];
        stationRow = new Station[STATIONS];
        robotRow = new Robot[ROBOTS];
        bodyRow = new Body[BODIES];
        paces = new Paces();
    }

    // ---- panels and spots

    public int panel(int parent) throws IndexOutOfBoundsException, IllegalStateException {
        if (panelCount > 0 && !isPanel(parent)) {
            throw new IndexOutOfBoundsException("no such panel");
        }
        int number = panelCount;
        if (number < 0 || number >= parents.length) {
            throw new IllegalStateException("no more panels");
        }
        parents[number] = number == 0 ? NONE : parent;
        panelCount = number + 1;
        return number;
    }

    public int spot(int one, int other, int place, int variants, int need, boolean holds)
            throws IndexOutOfBoundsException, IllegalArgumentException,
            UnsupportedOperationException, IllegalStateException {
        if (!isPanel(one) || !isPanel(other)) {
            throw new IndexOutOfBoundsException("no such panel");
        }
        if (!isPlace(place) || variants < 1 || variants > ALL_VARIANTS || need < 1 || need > MOST_NEED) {
            throw new IllegalArgumentException("a number is out of range");
        }
        int child = childOf(one, other);
        if (child == NONE) {
            throw new UnsupportedOperationException("neither panel is the parent of the other one");
        }
        int number = spotCount;
        if (number < 0 || number >= spotRow.length) {
            throw new IllegalStateException("no more spots");
        }
        spotRow[number] = new Spot(number, child, place, variants, need, holds);
        spotCount = number + 1;
        return number;
    }

    public int spots(int variant) throws IndexOutOfBoundsException {
        requireVariant(variant);
        int count = 0;
        for (Spot spot : spotRow) {
            if (spot != null && spot.isOf(variant)) {
                count++;
            }
        }
        return count;
    }

    public boolean isHeld(int variant) throws IndexOutOfBoundsException {
        requireVariant(variant);
        for (int panel = 1; panel < panelCount; panel++) {
            if (!isPanelHeld(panel, variant)) {
                return false;
            }
        }
        return true;
    }

    private boolean isPanel(int number) {
        return number >= 0 && number < panelCount && number < parents.length;
    }

    /** Which of two panels hangs on the other one, NONE if neither does. */
    private int childOf(int one, int other) {
        if (isPanel(one) && parents[one] == other) {
            return one;
        }
        if (isPanel(other) && parents[other] == one) {
            return other;
        }
        return NONE;
    }

    private boolean isPanelHeld(int panel, int variant) {
        for (Spot spot : spotRow) {
            if (spot != null && spot.holds && spot.child == panel && spot.isOf(variant)) {
                return true;
            }
        }
        return false;
    }

    // ---- stations and robots

    public int station() throws IllegalStateException {
        int number = stationCount;
        if (number < 0 || number >= stationRow.length) {
            throw new IllegalStateException("no more stations");
        }
        stationRow[number] = new Station(number, beatCount);
        stationCount = number + 1;
        return number;
    }

    public int robot(int station, int base, int reach)
            throws IndexOutOfBoundsException, IllegalArgumentException,
            UnsupportedOperationException, IllegalStateException {
        Station home = requireStation(station);
        if (!isPlace(base) || reach < 1 || reach > MOST_REACH) {
            throw new IllegalArgumentException("a number is out of range");
        }
        if (home.hasBaseAt(base)) {
            throw new UnsupportedOperationException("a robot of the station has its base there");
        }
        int number = robotCount;
        if (home.isFull() || number < 0 || number >= robotRow.length) {
            throw new IllegalStateException("no more robots");
        }
        Robot robot = new Robot(number, station, base, reach);
        robotRow[number] = robot;
        home.add(robot);
        robotCount = number + 1;
        return number;
    }

    public boolean reaches(int robot, int place)
            throws IndexOutOfBoundsException, IllegalArgumentException {
        Robot found = requireRobot(robot);
        requirePlace(place);
        return found.canReach(place);
    }

    public int swept(int from, int to) throws IllegalArgumentException {
        requirePlace(from);
        requirePlace(to);
        return distance(xOf(from), xOf(to)) + distance(yOf(from), yOf(to)) + 1;
    }

    public int current(int robot, int current)
            throws IndexOutOfBoundsException, IllegalArgumentException {
        Robot found = requireRobot(robot);
        if (current < 1 || current > MOST_CURRENT) {
            throw new IllegalArgumentException("the current is out of range");
        }
        int before = found.current;
        found.current = current;
        return before;
    }

    private static boolean isPlace(int place) {
        return place >= 0 && xOf(place) < WIDTH && yOf(place) < HEIGHT;
    }

    private static void requirePlace(int place) {
        if (!isPlace(place)) {
            throw new IllegalArgumentException("no such place");
        }
    }

    private static int xOf(int place) {
        return place / 10;
    }

    private static int yOf(int place) {
        return place % 10;
    }

    private static int distance(int one, int other) {
        return one < other ? other - one : one - other;
    }

    private static void requireVariant(int variant) {
        if (variant < 0 || variant >= VARIANTS) {
            throw new IndexOutOfBoundsException("no such variant");
        }
    }

    private Spot spotAt(int number) {
        return number >= 0 && number < spotRow.length ? spotRow[number] : null;
    }

    private Robot robotAt(int number) {
        return number >= 0 && number < robotRow.length ? robotRow[number] : null;
    }

    private Station stationAt(int number) {
        return number >= 0 && number < stationRow.length ? stationRow[number] : null;
    }

    private Body bodyAt(int number) {
        return number >= 0 && number < bodyRow.length ? bodyRow[number] : null;
    }

    private Spot requireSpot(int number) {
        Spot found = spotAt(number);
        if (found == null) {
            throw new IndexOutOfBoundsException("no such spot");
        }
        return found;
    }

    private Robot requireRobot(int number) {
        Robot found = robotAt(number);
        if (found == null) {
            throw new IndexOutOfBoundsException("no such robot");
        }
        return found;
    }

    private Station requireStation(int number) {
        Station found = stationAt(number);
        if (found == null) {
            throw new IndexOutOfBoundsException("no such station");
        }
        return found;
    }

    private Body requireBody(int number) {
        Body found = bodyAt(number);
        if (found == null) {
            throw new IndexOutOfBoundsException("no such body");
        }
        return found;
    }

    // ---- programs

    public int step(int robot, int variant, char kind, int number)
            throws IndexOutOfBoundsException, IllegalArgumentException,
            UnsupportedOperationException, IllegalStateException {
        Program program = requireProgram(robot, variant);
        if (!isStep(kind, number)) {
            throw new IllegalArgumentException("no such kind, place, spot or zone");
        }
        if (!fits(robot, variant, kind, number)) {
            throw new UnsupportedOperationException("not reached, or not of the variant");
        }
        if (program.length >= STEPS) {
            throw new IllegalStateException("no more steps");
        }
        program.add(kind, number);
        return program.length;
    }

    public int erase(int robot, int variant) throws IndexOutOfBoundsException {
        Program program = requireProgram(robot, variant);
        int before = program.length;
        program.length = 0;
        return before;
    }

    public int steps(int robot, int variant) throws IndexOutOfBoundsException {
        return requireProgram(robot, variant).length;
    }

    public int welds(int robot, int variant) throws IndexOutOfBoundsException {
        Program program = requireProgram(robot, variant);
        int count = 0;
        for (int step = 0; step < program.length; step++) {
            if (spotWelded(program, step) != null) {
                count++;
            }
        }
        return count;
    }

    public char proof(int station, int variant) throws IndexOutOfBoundsException {
        explore(station, variant);
        if (paces.canMeet) {
            return 'm';
        }
        if (paces.canStick) {
            return 'd';
        }
        return paces.leavesZone() ? 'z' : 'p';
    }

    public int states(int station, int variant) throws IndexOutOfBoundsException {
        explore(station, variant);
        return paces.reached;
    }

    public int uncovered(int variant) throws IndexOutOfBoundsException {
        requireVariant(variant);
        int count = 0;
        for (Spot spot : spotRow) {
            if (isUncovered(spot, variant)) {
                count++;
            }
        }
        return count;
    }

    public int deal(int variant) throws IndexOutOfBoundsException {
        requireVariant(variant);
        int count = 0;
        for (Spot spot : spotRow) {
            if (isUncovered(spot, variant) && dealSpot(spot, variant)) {
                count++;
            }
        }
        return count;
    }

    private Program requireProgram(int robot, int variant) {
        Program program = requireRobot(robot).programFor(variant);
        if (program == null) {
            throw new IndexOutOfBoundsException("no such variant");
        }
        return program;
    }

    private boolean isStep(char kind, int number) {
        if (kind == 'm') {
            return isPlace(number);
        }
        if (kind == 'w') {
            return spotAt(number) != null;
        }
        return (kind == 'c' || kind == 'f') && number >= 0 && number < ZONES;
    }

    private boolean fits(int robot, int variant, char kind, int number) {
        if (kind == 'm') {
            Robot found = robotAt(robot);
            return found != null && found.canReach(number);
        }
        if (kind == 'w') {
            Spot spot = spotAt(number);
            return spot != null && spot.isOf(variant);
        }
        return true;
    }

    /** The spot that a step welds as its program is run, null if the step is no weld. */
    private Spot spotWelded(Program program, int step) {
        if (program.kindAt(step) != 'w') {
            return null;
        }
        Spot spot = spotAt(program.numberAt(step));
        return spot != null && spot.place == program.placeAhead(step) ? spot : null;
    }

    private void explore(int station, int variant) {
        Station home = requireStation(station);
        requireVariant(variant);
        paces.lay(home, variant);
        paces.explore();
    }

    private boolean isUncovered(Spot spot, int variant) {
        if (spot == null || !spot.isOf(variant)) {
            return false;
        }
        for (Robot robot : robotRow) {
            if (robot != null && hasWeld(robot.programFor(variant), spot)) {
                return false;
            }
        }
        return true;
    }

    private boolean hasWeld(Program program, Spot spot) {
        if (program == null) {
            return false;
        }
        for (int step = 0; step < program.length; step++) {
            if (spotWelded(program, step) == spot) {
                return true;
            }
        }
        return false;
    }

    private boolean dealSpot(Spot spot, int variant) {
        if (spot == null) {
            return false;
        }
        Program shortest = null;
        for (Robot robot : robotRow) {
            Program program = canBeDealt(robot, spot) ? robot.programFor(variant) : null;
            if (program != null && (shortest == null || program.length < shortest.length)) {
                shortest = program;
            }
        }
        if (shortest == null || shortest.length > STEPS - 2) {
            return false;
        }
        shortest.add('m', spot.place);
        shortest.add('w', spot.number);
        return true;
    }

    private static boolean canBeDealt(Robot robot, Spot spot) {
        return robot != null && robot.canReach(spot.place) && (robot.station == 0 || !spot.holds);
    }

    // ---- the line

    public int order(int variant) throws IndexOutOfBoundsException, IllegalStateException {
        requireVariant(variant);
        int number = bodyCount;
        if (number < 0 || number >= bodyRow.length) {
            throw new IllegalStateException("no more bodies");
        }
        bodyRow[number] = new Body(number, variant);
        bodyCount = number + 1;
        return number;
    }

    public int beat() throws UnsupportedOperationException {
        if (stationCount == 0) {
            throw new UnsupportedOperationException("no stations");
        }
        int cameOff = 0;
        // From the last one on, so that no body goes two stations far in one beat.
        for (int number = stationRow.length - 1; number >= 0; number--) {
            Station station = stationRow[number];
            if (station != null && run(station)) {
                cameOff++;
            }
        }
        bringWaiting();
        beatCount++;
        return cameOff;
    }

    public int beats() {
        return beatCount;
    }

    public int at(int station) throws IndexOutOfBoundsException, NoSuchElementException {
        Body body = requireStation(station).body;
        if (body == null) {
            throw new NoSuchElementException("no body there");
        }
        return body.number;
    }

    public int where(int body) throws IndexOutOfBoundsException {
        return requireBody(body).where;
    }

    public int waiting() {
        return countAt(WAITS);
    }

    public boolean stand(int station, boolean is) throws IndexOutOfBoundsException {
        Station found = requireStation(station);
        boolean before = found.stands;
        found.stands = is;
        return before;
    }

    public int letters(int station, char letter)
            throws IndexOutOfBoundsException, IllegalArgumentException {
        Station found = requireStation(station);
        if (letter == 's') {
            return found.stood;
        }
        if (letter == 'e') {
            return found.wasEmpty;
        }
        if (letter == 'b') {
            return found.wasBlocked;
        }
        if (letter == 'w') {
            return found.went;
        }
        throw new IllegalArgumentException("no such letter");
    }

    /** Lets one station take its part in a beat; true if a body comes off the line by it. */
    private boolean run(Station station) {
        Body body = station.body;
        if (station.stands) {
            station.stood++;
            return false;
        }
        if (body == null) {
            station.wasEmpty++;
            return false;
        }
        if (!station.worked) {
            work(station, body);
            station.worked = true;
        }
        Station next = stationAt(station.number + 1);
        if (next != null && next.body != null) {
            station.wasBlocked++;
            return false;
        }
        station.went++;
        station.take(null);
        if (next != null) {
            next.take(body);
            return false;
        }
        body.where = OFF_LINE;
        body.measure = measureOf(body);
        return true;
    }

    private void bringWaiting() {
        Station first = stationAt(0);
        if (first == null || first.body != null) {
            return;
        }
        for (Body body : bodyRow) {
            if (body != null && body.where == WAITS) {
                first.take(body);
                return;
            }
        }
    }

    private int countAt(int where) {
        int count = 0;
        for (Body body : bodyRow) {
            if (body != null && body.where == where) {
                count++;
            }
        }
        return count;
    }

    private void work(Station station, Body body) {
        for (Robot robot : station.crew) {
            Program program = robot == null ? null : robot.programFor(body.variant);
            if (program == null) {
                continue;
            }
            for (int step = 0; step < program.length; step++) {
                Spot spot = spotWelded(program, step);
                Robot welder = spot == null ? null : welderFor(robot, spot);
                if (welder != null) {
                    weld(welder, spot, body);
                }
            }
        }
    }

    /** Who makes a weld of a robot's program, null if nobody does. */
    private Robot welderFor(Robot robot, Spot spot) {
        if (!robot.dead) {
            return robot;
        }
        Robot other = robotAt(robot.substitute);
        return other != null && !other.dead && other.canReach(spot.place) ? other : null;
    }

    private void weld(Robot welder, Spot spot, Body body) {
        boolean good = welder.strength() >= spot.need
                && (spot.holds || lackingOf(body, true) == 0);
        welder.worn += spot.need;
        if (!good) {
            return;
        }
        welder.goodWelds++;
        if (body.isWithout(spot)) {
            body.setMaker(spot, welder.number);
        }
    }

    /** How many spots that hold the shape, or how many others, a body lacks. */
    private int lackingOf(Body body, boolean holding) {
        int count = 0;
        for (Spot spot : spotRow) {
            if (spot != null && spot.holds == holding && body.isWithout(spot)) {
                count++;
            }
        }
        return count;
    }

    private int lackingOf(Body body) {
        return lackingOf(body, true) + lackingOf(body, false);
    }

    private int measureOf(Body body) {
        int sum = 4 * lackingOf(body, true) + lackingOf(body, false);
        for (Station station : stationRow) {
            if (station != null) {
                sum += station.offset;
            }
        }
        return sum;
    }

    // ---- robots that fail, tips

    public boolean die(int robot, boolean is) throws IndexOutOfBoundsException {
        Robot found = requireRobot(robot);
        boolean before = found.dead;
        found.dead = is;
        return before;
    }

    public int standIn(int robot, int other)
            throws IndexOutOfBoundsException, IllegalArgumentException {
        Robot found = requireRobot(robot);
        if (other != NONE) {
            requireRobot(other);
        }
        if (robot == other) {
            throw new IllegalArgumentException("a robot stands not in for itself");
        }
        int before = found.substitute;
        found.substitute = other;
        return before;
    }

    public int wear(int robot) throws IndexOutOfBoundsException {
        return requireRobot(robot).worn;
    }

    public int dress(int robot) throws IndexOutOfBoundsException, UnsupportedOperationException {
        Robot found = requireRobot(robot);
        if (found.dressed >= DRESSINGS) {
            throw new UnsupportedOperationException("the tip is to be changed");
        }
        found.worn = 0;
        found.dressed++;
        return DRESSINGS - found.dressed;
    }

    public int change(int robot) throws IndexOutOfBoundsException {
        Robot found = requireRobot(robot);
        int before = found.dressed;
        found.worn = 0;
        found.dressed = 0;
        return before;
    }

    public int made(int robot) throws IndexOutOfBoundsException {
        return requireRobot(robot).goodWelds;
    }

    // ---- bodies

    public int lacks(int body) throws IndexOutOfBoundsException {
        return lackingOf(requireBody(body));
    }

    public boolean isLacking(int body, int spot) throws IndexOutOfBoundsException {
        return requireBody(body).isWithout(requireSpot(spot));
    }

    public int firstLacking(int body) throws IndexOutOfBoundsException, NoSuchElementException {
        Body found = requireBody(body);
        for (Spot spot : spotRow) {
            if (spot != null && found.isWithout(spot)) {
                return spot.number;
            }
        }
        throw new NoSuchElementException("the body lacks nothing");
    }

    public int mend(int body, int spot)
            throws IndexOutOfBoundsException, UnsupportedOperationException {
        Body found = requireBody(body);
        Spot missing = requireSpot(spot);
        if (found.where != OFF_LINE || !found.isWithout(missing)) {
            throw new UnsupportedOperationException("not off the line, or not lacking");
        }
        found.setMaker(missing, BY_HAND);
        return lackingOf(found);
    }

    public int maker(int body, int spot) throws IndexOutOfBoundsException, NoSuchElementException {
        Body found = requireBody(body);
        int who = found.makerOf(requireSpot(spot));
        if (who == NOT_MADE) {
            throw new NoSuchElementException("lacking, or not of the variant");
        }
        return who;
    }

    public int whole() {
        int count = 0;
        for (Body body : bodyRow) {
            if (body != null && body.where == OFF_LINE && lackingOf(body) == 0) {
                count++;
            }
        }
        return count;
    }

    // ---- measures

    public int offset(int station, int offset)
            throws IndexOutOfBoundsException, IllegalArgumentException {
        Station found = requireStation(station);
        if (offset < -MOST_OFFSET || offset > MOST_OFFSET) {
            throw new IllegalArgumentException("the offset is out of range");
        }
        int before = found.offset;
        found.offset = offset;
        return before;
    }

    public int measure(int body) throws IndexOutOfBoundsException, NoSuchElementException {
        Body found = requireBody(body);
        if (found.where != OFF_LINE) {
            throw new NoSuchElementException("not off the line");
        }
        return found.measure;
    }

    public int feedBack(int station, int bodies)
            throws IndexOutOfBoundsException, IllegalArgumentException, NoSuchElementException {
        Station found = requireStation(station);
        if (bodies < 1 || bodies > MOST_FED_BACK) {
            throw new IllegalArgumentException("the number of bodies is out of range");
        }
        if (countAt(OFF_LINE) == 0) {
            throw new NoSuchElementException("none is off the line");
        }
        int corrected = found.offset - meanOfLast(bodies) / 2;
        found.offset = Math.max(-MOST_OFFSET, Math.min(MOST_OFFSET, corrected));
        return found.offset;
    }

    /** The mean, cut toward 0, of the last measures, 0 if there is none. */
    private int meanOfLast(int bodies) {
        int sum = 0;
        int count = 0;
        // Bodies come off in the order of their numbers, so the highest ones are the last.
        for (int number = bodyRow.length - 1; number >= 0 && count < bodies; number--) {
            Body body = bodyRow[number];
            if (body != null && body.where == OFF_LINE) {
                sum += body.measure;
                count++;
            }
        }
        return count == 0 ? 0 : sum / count;
    }

    // ---- figures

    public long checksum() {
        long sum = 7;
        for (Body body : bodyRow) {
            if (body != null) {
                sum = 31 * sum + body.where + lackingOf(body) + body.measure;
            }
        }
        return sum;
    }

    public float wholeShare() throws NoSuchElementException {
        int off = countAt(OFF_LINE);
        if (off == 0) {
            throw new NoSuchElementException("none is off the line");
        }
        return (float) whole() / (float) off;
    }

    public double meanMeasure() throws NoSuchElementException {
        int off = countAt(OFF_LINE);
        if (off == 0) {
            throw new NoSuchElementException("none is off the line");
        }
        int sum = 0;
        for (Body body : bodyRow) {
            if (body != null && body.where == OFF_LINE) {
                sum += body.measure;
            }
        }
        return (double) sum / (double) off;
    }

    public boolean isSound() {
        return stationsAreSound() && orderIsSound() && makersAreSound();
    }

    private boolean stationsAreSound() {
        for (Station station : stationRow) {
            if (station == null) {
                continue;
            }
            if (station.letterSum() != beatCount - station.firstBeat) {
                return false;
            }
            if (station.body != null && station.body.where != station.number) {
                return false;
            }
        }
        return true;
    }

    private boolean orderIsSound() {
        Body ahead = null;
        for (Body body : bodyRow) {
            if (body == null) {
                continue;
            }
            if (!isPlaced(body) || ahead != null && !isBehind(body, ahead)) {
                return false;
            }
            ahead = body;
        }
        return true;
    }

    private boolean isPlaced(Body body) {
        if (body.where == WAITS || body.where == OFF_LINE) {
            return true;
        }
        Station station = stationAt(body.where);
        return station != null && station.body == body;
    }

    private static boolean isBehind(Body body, Body ahead) {
        if (body.where == WAITS || ahead.where == OFF_LINE) {
            return true;
        }
        return body.where != OFF_LINE && body.where < ahead.where;
    }

    private boolean makersAreSound() {
        for (Body body : bodyRow) {
            for (Spot spot : spotRow) {
                if (body != null && spot != null && !isMakerSound(body.makerOf(spot), spot)) {
                    return false;
                }
            }
        }
        return true;
    }

    private boolean isMakerSound(int who, Spot spot) {
        if (who == NOT_MADE || who == BY_HAND) {
            return true;
        }
        Robot robot = robotAt(who);
        return robot != null && robot.canReach(spot.place);
    }

    // ---- what the line is made of

    private static final class Spot {
        final int number;
        final int child;
        final int place;
        final int variants;
        final int need;
        final boolean holds;

        Spot(int number, int child, int place, int variants, int need, boolean holds) {
            this.number = number;
            this.child = child;
            this.place = place;
            this.variants = variants;
            this.need = need;
            this.holds = holds;
        }

        boolean isOf(int variant) {
            return variant >= 0 && variant < VARIANTS && (variants >> variant & 1) == 1;
        }
    }

    private static final class Station {
        final int number;
        final int firstBeat;
        final Robot[] crew;
        int crewSize;
        Body body;
        boolean worked;
        boolean stands;
        int offset;
        int stood;
        int wasEmpty;
        int wasBlocked;
        int went;

        Station(int number, int firstBeat) {
            this.number = number;
            this.firstBeat = firstBeat;
            crew = new Robot[CREW];
        }

        boolean isFull() {
            return crewSize >= crew.length;
        }

        void add(Robot robot) {
            if (crewSize >= 0 && crewSize < crew.length) {
                crew[crewSize] = robot;
                crewSize++;
            }
        }

        boolean hasBaseAt(int place) {
            for (Robot robot : crew) {
                if (robot != null && robot.base == place) {
                    return true;
                }
            }
            return false;
        }

        /** Takes another body, or none, in the place of the one that it has. */
        void take(Body next) {
            body = next;
            worked = false;
            if (next != null) {
                next.where = number;
            }
        }

        int letterSum() {
            return stood + wasEmpty + wasBlocked + went;
        }
    }

    private static final class Robot {
        final int number;
        final int station;
        final int base;
        final int reach;
        final Program[] programs;
        int current;
        int worn;
        int dressed;
        int goodWelds;
        int substitute;
        boolean dead;

        Robot(int number, int station, int base, int reach) {
            this.number = number;
            this.station = station;
            this.base = base;
            this.reach = reach;
            current = 12;
            substitute = NONE;
            programs = new Program[VARIANTS];
            for (int variant = 0; variant < programs.length; variant++) {
                programs[variant] = new Program(base);
            }
        }

        Program programFor(int variant) {
            return variant >= 0 && variant < programs.length ? programs[variant] : null;
        }

        boolean canReach(int place) {
            return distance(xOf(base), xOf(place)) <= reach
                    && distance(yOf(base), yOf(place)) <= reach;
        }

        /** What is left of the current by the wear of the tip. */
        int strength() {
            return current - worn / 5;
        }
    }

    private static final class Program {
        final int base;
        final char[] kinds;
        final int[] numbers;
        int length;

        Program(int base) {
            this.base = base;
            kinds = new char[STEPS];
            numbers = new int[STEPS];
        }

        void add(char kind, int number) {
            if (length >= 0 && length < kinds.length && length < numbers.length) {
                kinds[length] = kind;
                numbers[length] = number;
                length++;
            }
        }

        /** The kind of a step, a blank behind the end. */
        char kindAt(int step) {
            return step >= 0 && step < length && step < kinds.length ? kinds[step] : ' ';
        }

        int numberAt(int step) {
            return step >= 0 && step < length && step < numbers.length ? numbers[step] : 0;
        }

        /** The place at which the robot is ahead of a step. */
        int placeAhead(int step) {
            int place = base;
            for (int done = 0; done < step && done < length; done++) {
                if (kindAt(done) == 'm') {
                    place = numberAt(done);
                }
            }
            return place;
        }
    }

    private static final class Body {
        final int number;
        final int variant;
        final int[] makers;
        int where;
        int measure;

        Body(int number, int variant) {
            this.number = number;
            this.variant = variant;
            where = WAITS;
            makers = new int[SPOTS];
            for (int spot = 0; spot < makers.length; spot++) {
                makers[spot] = NOT_MADE;
            }
        }

        int makerOf(Spot spot) {
            int at = spot.number;
            return at >= 0 && at < makers.length ? makers[at] : NOT_MADE;
        }

        void setMaker(Spot spot, int who) {
            int at = spot.number;
            if (at >= 0 && at < makers.length) {
                makers[at] = who;
            }
        }

        boolean isWithout(Spot spot) {
            return spot.isOf(variant) && makerOf(spot) == NOT_MADE;
        }
    }

    // ---- proofs

    /** What a robot holds at each pace of its program: pace 0 is ahead of the first step. */
    private static final class Track {
        final int[] zones;
        final int[] claims;
        final long[] lowCells;
        final long[] highCells;
        int length;
        int pace;

        Track() {
            zones = new int[PACES];
            claims = new int[PACES];
            lowCells = new long[PACES];
            highCells = new long[PACES];
        }

        void layNothing() {
            length = 0;
            pace = 0;
            zones[0] = 0;
            claims[0] = 0;
            lowCells[0] = 0L;
            highCells[0] = 0L;
        }

        void lay(Program program) {
            length = Math.min(program.length, STEPS);
            pace = 0;
            int held = 0;
            for (int at = 0; at <= length && at < PACES; at++) {
                char kind = program.kindAt(at);
                int zone = 1 << (program.numberAt(at) & 31);
                zones[at] = held;
                claims[at] = kind == 'c' ? zone : 0;
                layCells(at, program.placeAhead(at), program.placeAhead(at + 1));
                if (kind == 'c') {
                    held |= zone;
                }
                if (kind == 'f') {
                    held &= ~zone;
                }
            }
        }

        /** Puts the cells from one place to another, along x first, into the row of a pace. */
        private void layCells(int at, int from, int to) {
            if (at < 0 || at >= PACES) {
                return;
            }
            lowCells[at] = 0L;
            highCells[at] = 0L;
            int across = Math.max(xOf(from), xOf(to));
            for (int x = Math.min(xOf(from), xOf(to)); x <= across && x < WIDTH; x++) {
                layCell(at, x, yOf(from));
            }
            int up = Math.max(yOf(from), yOf(to));
            for (int y = Math.min(yOf(from), yOf(to)); y <= up && y < HEIGHT; y++) {
                layCell(at, xOf(to), y);
            }
        }

        private void layCell(int at, int x, int y) {
            int cell = x * HEIGHT + y;
            if (at < 0 || at >= PACES) {
                return;
            }
            if (cell < 64) {
                lowCells[at] |= 1L << cell;
            } else {
                highCells[at] |= 1L << cell - 64;
            }
        }

        boolean isEnded() {
            return pace >= length;
        }

        int zonesHeld() {
            return pace >= 0 && pace < zones.length ? zones[pace] : 0;
        }

        int zoneClaimed() {
            return pace >= 0 && pace < claims.length ? claims[pace] : 0;
        }

        int zonesAtEnd() {
            return length >= 0 && length < zones.length ? zones[length] : 0;
        }

        boolean meets(Track other) {
            return (lowHeld() & other.lowHeld()) != 0L || (highHeld() & other.highHeld()) != 0L;
        }

        private long lowHeld() {
            return pace >= 0 && pace < lowCells.length ? lowCells[pace] : 0L;
        }

        private long highHeld() {
            return pace >= 0 && pace < highCells.length ? highCells[pace] : 0L;
        }
    }

    /** All ways in which the programs of a station can go. */
    private static final class Paces {
        final Track[] tracks;
        final boolean[] seen;
        int last;
        int reached;
        boolean canMeet;
        boolean canStick;

        Paces() {
            tracks = new Track[CREW];
            for (int at = 0; at < tracks.length; at++) {
                tracks[at] = new Track();
            }
            seen = new boolean[PACES * PACES * PACES];
        }

        void lay(Station station, int variant) {
            last = 0;
            int weight = 1;
            for (int at = 0; at < tracks.length && at < station.crew.length; at++) {
                Track track = tracks[at];
                Robot robot = station.crew[at];
                Program program = robot == null ? null : robot.programFor(variant);
                if (program == null) {
                    track.layNothing();
                } else {
                    track.lay(program);
                }
                last += track.length * weight;
                weight *= PACES;
            }
        }

        /** Goes over the states by their numbers, as each step leads to a state of a higher number. */
        void explore() {
            reached = 0;
            canMeet = false;
            canStick = false;
            for (int state = 0; state <= last && state < seen.length; state++) {
                seen[state] = state == 0;
            }
            for (int state = 0; state <= last && state < seen.length; state++) {
                if (seen[state]) {
                    visit(state);
                }
            }
        }

        private void visit(int state) {
            place(state);
            reached++;
            if (isMeeting()) {
                canMeet = true;
            }
            if (hasStepsLeft() && markNext(state) == 0) {
                canStick = true;
            }
        }

        private void place(int state) {
            int rest = state;
            for (Track track : tracks) {
                track.pace = rest % PACES;
                rest = rest / PACES;
            }
        }

        private boolean isMeeting() {
            for (int one = 0; one < tracks.length; one++) {
                for (int other = 0; other < one; other++) {
                    if (tracks[one].meets(tracks[other])) {
                        return true;
                    }
                }
            }
            return false;
        }

        private boolean hasStepsLeft() {
            for (Track track : tracks) {
                if (!track.isEnded()) {
                    return true;
                }
            }
            return false;
        }

        /** Marks the states that are one step on, and returns how many there are. */
        private int markNext(int state) {
            int count = 0;
            int weight = 1;
            for (Track track : tracks) {
                if (!track.isEnded() && canStep(track)) {
                    mark(state + weight);
                    count++;
                }
                weight *= PACES;
            }
            return count;
        }

        private boolean canStep(Track track) {
            for (Track other : tracks) {
                if (other != track && (track.zoneClaimed() & other.zonesHeld()) != 0) {
                    return false;
                }
            }
            return true;
        }

        private void mark(int state) {
            if (state >= 0 && state < seen.length) {
                seen[state] = true;
            }
        }

        boolean leavesZone() {
            for (Track track : tracks) {
                if (track.zonesAtEnd() != 0) {
                    return true;
                }
            }
            return false;
        }
    }
}
