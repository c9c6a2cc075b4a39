import java.util.NoSuchElementException;

/** For each promise of the document: ordinary inputs, the edges that it names, and wrong inputs. */
public final class PromiseTests {
    private static final Class<IndexOutOfBoundsException> INDEX = IndexOutOfBoundsException.class;
    private static final Class<IllegalArgumentException> ARGUMENT = IllegalArgumentException.class;
    private static final Class<UnsupportedOperationException> UNSUPPORTED = UnsupportedOperationException.class;
    private static final Class<IllegalStateException> STATE = IllegalStateException.class;
    private static final Class<NoSuchElementException> NO_ELEMENT = NoSuchElementException.class;
    private static final int LEAST = Integer.MIN_VALUE;
    private static final int MOST = Integer.MAX_VALUE;

    private final Check check = new Check("PromiseTests");

    public static void main(String[] args) {
        PromiseTests tests = new PromiseTests();
        tests.firstExample();
        tests.promise1NewObject();
        tests.promise2Panel();
        tests.promise3Spot();
        tests.promise4Spots();
        tests.promise5IsHeld();
        tests.promise6Station();
        tests.promise7Robot();
        tests.promise8Reaches();
        tests.promise9Swept();
        tests.promise10Current();
        tests.promise11Step();
        tests.promise12And13EraseAndSteps();
        tests.promise14Welds();
        tests.promise15ProofMeeting();
        tests.promise15ProofDeadlock();
        tests.promise15ProofZones();
        tests.promise15ProofWrong();
        tests.promise16States();
        tests.promise17Uncovered();
        tests.promise18Deal();
        tests.promise18DealChoice();
        tests.promise19Order();
        tests.promise20Beat();
        tests.promise20BeatWorksOnce();
        tests.promise20NewStation();
        tests.promise21Beats();
        tests.promise22At();
        tests.promise23Where();
        tests.promise24Waiting();
        tests.promise25Stand();
        tests.promise26Letters();
        tests.promise27Die();
        tests.promise28StandIn();
        tests.promise28StandInWelds();
        tests.promise29Wear();
        tests.promise30Dress();
        tests.promise31Change();
        tests.promise32Made();
        tests.promise33Lacks();
        tests.promise34IsLacking();
        tests.promise35FirstLacking();
        tests.promise36Mend();
        tests.promise37Maker();
        tests.promise38Whole();
        tests.promise39Offset();
        tests.promise40Measure();
        tests.promise41FeedBack();
        tests.promise42Checksum();
        tests.promise43WholeShare();
        tests.promise44MeanMeasure();
        tests.promise45IsSound();
        tests.check.close();
    }

    private void firstExample() {
        Spotbeat x = new Spotbeat();
        check.due("e panel", 0, () -> x.panel(0));
        check.due("e panel", 1, () -> x.panel(0));
        check.due("e spot", 0, () -> x.spot(1, 0, 22, 3, 4, true));
        check.due("e spot", 1, () -> x.spot(0, 1, 52, 1, 5, false));
        check.due("e spots", 2, () -> x.spots(0));
        check.due("e isHeld", true, () -> x.isHeld(0));
        check.due("e station", 0, () -> x.station());
        check.due("e robot", 0, () -> x.robot(0, 11, 4));
        check.due("e robot", 1, () -> x.robot(0, 71, 4));
        check.due("e reaches", true, () -> x.reaches(0, 22));
        check.due("e swept", 3, () -> x.swept(11, 22));
        check.due("e step", 1, () -> x.step(0, 0, 'm', 22));
        check.due("e erase", 1, () -> x.erase(0, 0));
        check.due("e deal", 2, () -> x.deal(0));
        check.due("e uncovered", 0, () -> x.uncovered(0));
        check.due("e steps", 2, () -> x.steps(0, 0));
        check.due("e welds", 1, () -> x.welds(0, 0));
        check.due("e proof", 'p', () -> x.proof(0, 0));
        check.due("e states", 9, () -> x.states(0, 0));
        check.due("e order", 0, () -> x.order(0));
        check.due("e order", 1, () -> x.order(1));
        check.due("e beat", 0, () -> x.beat());
        check.due("e beats", 1, () -> x.beats());
        check.due("e at", 0, () -> x.at(0));
        check.due("e where", -1, () -> x.where(1));
        check.due("e waiting", 1, () -> x.waiting());
        check.due("e stand", false, () -> x.stand(0, false));
        check.due("e lacks", 2, () -> x.lacks(0));
        check.due("e beat", 1, () -> x.beat());
        check.due("e maker", 0, () -> x.maker(0, 0));
        check.due("e isLacking", false, () -> x.isLacking(0, 1));
        check.due("e letters", 1, () -> x.letters(0, 'w'));
        check.due("e measure", 0, () -> x.measure(0));
        check.due("e current", 12, () -> x.current(0, 3));
        check.due("e die", false, () -> x.die(1, true));
        check.due("e standIn", -1, () -> x.standIn(1, 0));
        check.due("e wear", 4, () -> x.wear(0));
        check.due("e made", 1, () -> x.made(0));
        check.due("e dress", 4, () -> x.dress(0));
        check.due("e change", 1, () -> x.change(0));
        check.due("e order", 2, () -> x.order(0));
        check.due("e beat", 1, () -> x.beat());
        check.due("e beat", 1, () -> x.beat());
        check.due("e firstLacking", 0, () -> x.firstLacking(2));
        check.due("e mend", 1, () -> x.mend(2, 0));
        check.due("e whole", 1, () -> x.whole());
        check.due("e offset", 0, () -> x.offset(0, 7));
        check.due("e feedBack", 5, () -> x.feedBack(0, 2));
        check.due("e checksum", 206712L, () -> x.checksum());
        check.due("e wholeShare", 0.33333334f, () -> x.wholeShare());
        check.due("e meanMeasure", 3.0, () -> x.meanMeasure());
        check.due("e isSound", true, () -> x.isSound());
    }

    private void promise1NewObject() {
        Spotbeat x = new Spotbeat();
        check.due("1 spots", 0, () -> x.spots(0));
        check.due("1 waiting", 0, () -> x.waiting());
        check.due("1 beats", 0, () -> x.beats());
        check.due("1 checksum", 7L, () -> x.checksum());
        check.due("1 sound", true, () -> x.isSound());
        check.fails("1 no panels", INDEX, () -> x.spot(0, 0, 0, 1, 1, true));
        check.fails("1 no stations", INDEX, () -> x.at(0));
        check.fails("1 no robots", INDEX, () -> x.wear(0));
        check.fails("1 no bodies", INDEX, () -> x.where(0));
        check.fails("1 no spots", INDEX, () -> {
            x.order(0);
            return x.isLacking(0, 0);
        });
    }

    private void promise2Panel() {
        Spotbeat x = new Spotbeat();
        check.due("2 first, parent of no meaning", 0, () -> x.panel(-77));
        check.fails("2 itself as parent", INDEX, () -> x.panel(1));
        check.fails("2 below", INDEX, () -> x.panel(-1));
        check.due("2 second", 1, () -> x.panel(0));
        for (int i = 2; i < 8; i++) {
            int number = i;
            check.due("2 panel " + i, i, () -> x.panel(number - 1));
        }
        check.fails("2 a ninth", STATE, () -> x.panel(0));
        check.fails("2 index ahead of state", INDEX, () -> x.panel(8));
        check.due("2 the chain holds a spot at its end", 0, () -> x.spot(7, 6, 0, 1, 1, true));
        check.fails("2 others are not its parent", UNSUPPORTED, () -> x.spot(7, 5, 0, 1, 1, true));
    }

    private void promise3Spot() {
        Spotbeat x = new Spotbeat();
        x.panel(0);
        x.panel(0);
        x.panel(0);
        check.due("3 child first", 0, () -> x.spot(1, 0, 0, 1, 1, true));
        check.due("3 parent first", 1, () -> x.spot(0, 2, 117, 15, 9, false));
        check.fails("3 one below", INDEX, () -> x.spot(-1, 0, 0, 1, 1, true));
        check.fails("3 one above", INDEX, () -> x.spot(3, 0, 0, 1, 1, true));
        check.fails("3 other below", INDEX, () -> x.spot(0, LEAST, 0, 1, 1, true));
        check.fails("3 other above", INDEX, () -> x.spot(0, MOST, 0, 1, 1, true));
        int[] wrongPlaces = {-1, 8, 9, 18, 118, 119, 120, 127, LEAST, MOST};
        for (int place : wrongPlaces) {
            check.fails("3 place " + place, ARGUMENT, () -> x.spot(0, 1, place, 1, 1, true));
        }
        check.fails("3 no variants", ARGUMENT, () -> x.spot(0, 1, 0, 0, 1, true));
        check.fails("3 too many variants", ARGUMENT, () -> x.spot(0, 1, 0, 16, 1, true));
        check.fails("3 no need", ARGUMENT, () -> x.spot(0, 1, 0, 1, 0, true));
        check.fails("3 too much need", ARGUMENT, () -> x.spot(0, 1, 0, 1, 10, true));
        check.fails("3 siblings", UNSUPPORTED, () -> x.spot(1, 2, 0, 1, 1, true));
        check.fails("3 the same panel", UNSUPPORTED, () -> x.spot(1, 1, 0, 1, 1, true));
        check.fails("3 the floor with itself", UNSUPPORTED, () -> x.spot(0, 0, 0, 1, 1, true));
        check.fails("3 index ahead of argument", INDEX, () -> x.spot(0, 3, -1, 0, 0, true));
        check.fails("3 argument ahead of unsupported", ARGUMENT, () -> x.spot(1, 2, 0, 1, 0, true));
        for (int i = 2; i < 24; i++) {
            check.due("3 spot " + i, i, () -> x.spot(0, 1, 7, 2, 3, true));
        }
        check.fails("3 a 25th", STATE, () -> x.spot(0, 1, 7, 2, 3, true));
        check.fails("3 unsupported ahead of state", UNSUPPORTED, () -> x.spot(1, 2, 7, 2, 3, true));
        check.due("3 what failed left nothing", 23, () -> x.spots(1));
    }

    private void promise4Spots() {
        Spotbeat x = new Spotbeat();
        x.panel(0);
        x.panel(0);
        x.spot(0, 1, 0, 5, 1, true);
        x.spot(0, 1, 0, 12, 1, false);
        check.due("4 variant 0", 1, () -> x.spots(0));
        check.due("4 variant 1", 0, () -> x.spots(1));
        check.due("4 variant 2", 2, () -> x.spots(2));
        check.due("4 variant 3", 1, () -> x.spots(3));
        check.fails("4 below", INDEX, () -> x.spots(-1));
        check.fails("4 above", INDEX, () -> x.spots(4));
        check.fails("4 far", INDEX, () -> x.spots(32));
    }

    private void promise5IsHeld() {
        Spotbeat x = new Spotbeat();
        check.due("5 no panels", true, () -> x.isHeld(0));
        x.panel(0);
        check.due("5 the floor alone", true, () -> x.isHeld(3));
        x.panel(0);
        x.panel(1);
        check.due("5 nothing", false, () -> x.isHeld(0));
        x.spot(1, 0, 0, 3, 1, true);
        check.due("5 one of two", false, () -> x.isHeld(0));
        x.spot(1, 2, 0, 15, 1, false);
        check.due("5 an r spot holds nothing", false, () -> x.isHeld(0));
        x.spot(1, 2, 0, 1, 1, true);
        check.due("5 both", true, () -> x.isHeld(0));
        check.due("5 another variant", false, () -> x.isHeld(1));
        x.panel(1);
        check.due("5 a new panel", false, () -> x.isHeld(0));
        check.fails("5 below", INDEX, () -> x.isHeld(-1));
        check.fails("5 above", INDEX, () -> x.isHeld(4));
    }

    private void promise6Station() {
        Spotbeat x = new Spotbeat();
        for (int i = 0; i < 4; i++) {
            check.due("6 station " + i, i, () -> x.station());
        }
        check.fails("6 a fifth", STATE, () -> x.station());
        check.fails("6 none came of it", INDEX, () -> x.at(4));
    }

    private void promise7Robot() {
        Spotbeat x = Lines.bare(4);
        check.due("7 first", 0, () -> x.robot(0, 0, 1));
        check.fails("7 station below", INDEX, () -> x.robot(-1, 0, 1));
        check.fails("7 station above", INDEX, () -> x.robot(4, 0, 1));
        check.fails("7 base", ARGUMENT, () -> x.robot(0, 8, 1));
        check.fails("7 base below", ARGUMENT, () -> x.robot(0, -3, 1));
        check.fails("7 reach 0", ARGUMENT, () -> x.robot(0, 1, 0));
        check.fails("7 reach 13", ARGUMENT, () -> x.robot(0, 1, 13));
        check.fails("7 base taken", UNSUPPORTED, () -> x.robot(0, 0, 12));
        check.fails("7 argument ahead of unsupported", ARGUMENT, () -> x.robot(0, 0, 13));
        check.due("7 the same base in another station", 1, () -> x.robot(1, 0, 12));
        check.due("7 second of the station", 2, () -> x.robot(0, 1, 1));
        check.due("7 third of the station", 3, () -> x.robot(0, 117, 1));
        check.fails("7 a fourth", STATE, () -> x.robot(0, 50, 1));
        check.fails("7 unsupported ahead of state", UNSUPPORTED, () -> x.robot(0, 117, 1));
        x.robot(1, 1, 1);
        x.robot(1, 2, 1);
        for (int i = 6; i < 12; i++) {
            int number = i;
            check.due("7 robot " + i, i, () -> x.robot(number / 3, 10 * number, 1));
        }
        check.fails("7 a 13th", STATE, () -> x.robot(3, 13, 1));
        check.fails("7 no robot 12", INDEX, () -> x.wear(12));
    }

    private void promise8Reaches() {
        Spotbeat x = Lines.bare(1);
        x.robot(0, 53, 2);
        int[] reached = {53, 73, 33, 55, 51, 75, 31, 35, 71};
        for (int place : reached) {
            check.due("8 reaches " + place, true, () -> x.reaches(0, place));
        }
        int[] missed = {83, 23, 56, 50, 81, 30};
        for (int place : missed) {
            check.due("8 misses " + place, false, () -> x.reaches(0, place));
        }
        check.fails("8 robot", INDEX, () -> x.reaches(1, 0));
        check.fails("8 robot below", INDEX, () -> x.reaches(-1, 0));
        check.fails("8 place", ARGUMENT, () -> x.reaches(0, 58));
        check.fails("8 place above", ARGUMENT, () -> x.reaches(0, 120));
        check.fails("8 index first", INDEX, () -> x.reaches(1, -1));
    }

    private void promise9Swept() {
        Spotbeat x = new Spotbeat();
        check.due("9 the same", 1, () -> x.swept(34, 34));
        check.due("9 along x", 12, () -> x.swept(0, 110));
        check.due("9 along y", 8, () -> x.swept(7, 0));
        check.due("9 both", 19, () -> x.swept(117, 0));
        check.due("9 back and up", 7, () -> x.swept(51, 24));
        check.fails("9 from", ARGUMENT, () -> x.swept(8, 0));
        check.fails("9 to", ARGUMENT, () -> x.swept(0, 128));
        check.fails("9 from below", ARGUMENT, () -> x.swept(LEAST, 0));
        check.fails("9 to below", ARGUMENT, () -> x.swept(0, -1));
    }

    private void promise10Current() {
        Spotbeat x = Lines.bare(1);
        x.robot(0, 0, 1);
        check.due("10 at first", 12, () -> x.current(0, 1));
        check.due("10 least", 1, () -> x.current(0, 30));
        check.fails("10 none", ARGUMENT, () -> x.current(0, 0));
        check.fails("10 too much", ARGUMENT, () -> x.current(0, 31));
        check.fails("10 robot", INDEX, () -> x.current(1, 0));
        check.due("10 unchanged by faults", 30, () -> x.current(0, 12));
    }

    private void promise11Step() {
        Spotbeat x = Lines.twoSpots();
        x.spot(0, 1, 3, 2, 1, true);
        x.station();
        x.robot(0, 22, 1);
        check.due("11 m", 1, () -> x.step(0, 0, 'm', 33));
        check.due("11 w of a spot that is not reached", 2, () -> x.step(0, 0, 'w', 1));
        check.due("11 c", 3, () -> x.step(0, 0, 'c', 0));
        check.due("11 f", 4, () -> x.step(0, 0, 'f', 3));
        check.fails("11 robot", INDEX, () -> x.step(1, 0, 'm', 22));
        check.fails("11 variant below", INDEX, () -> x.step(0, -1, 'm', 22));
        check.fails("11 variant above", INDEX, () -> x.step(0, 4, 'm', 22));
        check.fails("11 index first", INDEX, () -> x.step(0, 4, 'x', 22));
        check.fails("11 kind", ARGUMENT, () -> x.step(0, 0, 'M', 22));
        check.fails("11 no place", ARGUMENT, () -> x.step(0, 0, 'm', 28));
        check.fails("11 no spot", ARGUMENT, () -> x.step(0, 0, 'w', 3));
        check.fails("11 spot below", ARGUMENT, () -> x.step(0, 0, 'w', -1));
        check.fails("11 no zone to claim", ARGUMENT, () -> x.step(0, 0, 'c', 4));
        check.fails("11 zone below", ARGUMENT, () -> x.step(0, 0, 'c', -1));
        check.fails("11 no zone to free", ARGUMENT, () -> x.step(0, 0, 'f', 4));
        check.fails("11 not reached", UNSUPPORTED, () -> x.step(0, 0, 'm', 44));
        check.fails("11 not of the variant", UNSUPPORTED, () -> x.step(0, 0, 'w', 2));
        check.due("11 of another variant", 1, () -> x.step(0, 1, 'w', 2));
        for (int i = 5; i <= 12; i++) {
            check.due("11 step " + i, i, () -> x.step(0, 0, 'f', 0));
        }
        check.fails("11 a 13th", STATE, () -> x.step(0, 0, 'f', 0));
        check.fails("11 unsupported ahead of state", UNSUPPORTED, () -> x.step(0, 0, 'm', 44));
        check.fails("11 argument ahead of state", ARGUMENT, () -> x.step(0, 0, 'c', 9));
    }

    private void promise12And13EraseAndSteps() {
        Spotbeat x = Lines.oneRobot();
        x.step(0, 3, 'c', 1);
        check.due("13 steps", 3, () -> x.steps(0, 0));
        check.due("13 none", 0, () -> x.steps(0, 1));
        check.due("12 erase", 3, () -> x.erase(0, 0));
        check.due("12 erased", 0, () -> x.steps(0, 0));
        check.due("12 erase nothing", 0, () -> x.erase(0, 0));
        check.due("12 another variant stays", 1, () -> x.steps(0, 3));
        check.due("12 begins anew", 1, () -> x.step(0, 0, 'w', 0));
        check.fails("12 robot", INDEX, () -> x.erase(1, 0));
        check.fails("12 variant", INDEX, () -> x.erase(0, 4));
        check.fails("13 robot", INDEX, () -> x.steps(-1, 0));
        check.fails("13 variant", INDEX, () -> x.steps(0, -1));
        check.fails("13 variant above", INDEX, () -> x.steps(0, 4));
    }

    private void promise14Welds() {
        Spotbeat x = Lines.twoSpots();
        x.station();
        x.robot(0, 22, 12);
        check.due("14 no steps", 0, () -> x.welds(0, 0));
        x.step(0, 0, 'w', 1);
        check.due("14 not at the place", 0, () -> x.welds(0, 0));
        x.step(0, 0, 'w', 0);
        check.due("14 at the base", 1, () -> x.welds(0, 0));
        x.step(0, 0, 'w', 0);
        check.due("14 twice the same", 2, () -> x.welds(0, 0));
        x.step(0, 0, 'm', 52);
        x.step(0, 0, 'w', 0);
        check.due("14 gone from the place", 2, () -> x.welds(0, 0));
        x.step(0, 0, 'w', 1);
        check.due("14 at the other place", 3, () -> x.welds(0, 0));
        check.due("14 another variant", 0, () -> x.welds(0, 1));
        check.fails("14 robot", INDEX, () -> x.welds(1, 0));
        check.fails("14 variant", INDEX, () -> x.welds(0, 4));
    }

    private void promise15ProofMeeting() {
        Spotbeat alone = Lines.bare(2);
        check.due("15 no robots", 'p', () -> alone.proof(0, 0));
        Spotbeat x = Lines.pair(0, 50);
        check.due("15 no steps", 'p', () -> x.proof(0, 0));
        x.step(0, 0, 'm', 40);
        check.due("15 next to each other", 'p', () -> x.proof(0, 0));
        x.step(0, 0, 'm', 50);
        check.due("15 onto the other's place", 'm', () -> x.proof(0, 0));
        check.due("15 of that variant alone", 'p', () -> x.proof(0, 1));
        Spotbeat alongXFirst = Lines.pair(0, 30);
        alongXFirst.step(0, 0, 'm', 35);
        check.due("15 x first sweeps the other", 'm', () -> alongXFirst.proof(0, 0));
        Spotbeat notYFirst = Lines.pair(0, 5);
        notYFirst.step(0, 0, 'm', 37);
        check.due("15 y first is not swept", 'p', () -> notYFirst.proof(0, 0));
        Spotbeat backwards = Lines.pair(37, 17);
        backwards.step(0, 0, 'm', 0);
        check.due("15 backwards along x", 'm', () -> backwards.proof(0, 0));
        Spotbeat corner = Lines.pair(0, 110);
        corner.step(1, 0, 'm', 117);
        corner.step(0, 0, 'm', 7);
        corner.step(0, 0, 'm', 107);
        check.due("15 the far cells apart", 'p', () -> corner.proof(0, 0));
        corner.step(0, 0, 'm', 117);
        check.due("15 the far cell shared", 'm', () -> corner.proof(0, 0));
        Spotbeat ways = Lines.pair(0, 44);
        ways.step(0, 0, 'm', 40);
        ways.step(0, 0, 'm', 0);
        ways.step(1, 0, 'm', 40);
        check.due("15 in one of the ways", 'm', () -> ways.proof(0, 0));
        check.due("15 the states all the same", 6, () -> ways.states(0, 0));
        Spotbeat guarded = Lines.pair(0, 114);
        for (int robot = 0; robot < 2; robot++) {
            guarded.step(robot, 0, 'c', 2);
            guarded.step(robot, 0, 'm', 54);
            guarded.step(robot, 0, 'm', robot == 0 ? 0 : 114);
            guarded.step(robot, 0, 'f', 2);
        }
        check.due("15 a zone keeps them apart", 'p', () -> guarded.proof(0, 0));
        check.due("15 the states with a zone", 16, () -> guarded.states(0, 0));
        Spotbeat other = Lines.bare(2);
        other.robot(0, 0, 12);
        other.robot(1, 0, 12);
        check.due("15 robots of other stations do not meet", 'p', () -> other.proof(0, 0));
    }

    private void promise15ProofDeadlock() {
        Spotbeat x = Lines.pair(0, 50);
        x.step(0, 0, 'c', 0);
        x.step(0, 0, 'c', 1);
        x.step(1, 0, 'c', 1);
        x.step(1, 0, 'c', 0);
        check.due("15 each waits for the other", 'd', () -> x.proof(0, 0));
        check.due("16 states up to there", 6, () -> x.states(0, 0));
        Spotbeat kept = Lines.pair(0, 50);
        kept.step(0, 0, 'c', 3);
        kept.step(1, 0, 'c', 3);
        check.due("15 a zone kept by one that has ended", 'd', () -> kept.proof(0, 0));
        check.due("16 states with it", 3, () -> kept.states(0, 0));
        Spotbeat again = Lines.pair(0, 50);
        again.step(0, 0, 'c', 0);
        again.step(0, 0, 'c', 0);
        again.step(0, 0, 'f', 0);
        check.due("15 a zone claimed twice by the same", 'p', () -> again.proof(0, 0));
        Spotbeat three = Lines.bare(1);
        for (int robot = 0; robot < 3; robot++) {
            three.robot(0, 50 * robot, 12);
            three.step(robot, 0, 'c', robot);
            three.step(robot, 0, 'c', (robot + 1) % 3);
            three.step(robot, 0, 'f', robot);
            three.step(robot, 0, 'f', (robot + 1) % 3);
        }
        check.due("15 three in a round", 'd', () -> three.proof(0, 0));
        three.step(0, 0, 'm', 100);
        check.due("15 m ahead of d", 'm', () -> three.proof(0, 0));
        Spotbeat unused = Lines.pair(0, 50);
        unused.step(0, 0, 'f', 1);
        unused.step(1, 0, 'c', 1);
        unused.step(1, 0, 'f', 1);
        check.due("15 to free a zone of nobody", 'p', () -> unused.proof(0, 0));
        Spotbeat strange = Lines.pair(0, 50);
        strange.step(0, 0, 'c', 1);
        strange.step(1, 0, 'f', 1);
        strange.step(1, 0, 'c', 1);
        check.due("15 to free a zone of another does nothing", 'd', () -> strange.proof(0, 0));
    }

    private void promise15ProofZones() {
        Spotbeat x = Lines.pair(0, 50);
        x.step(0, 0, 'c', 3);
        check.due("15 ends with a zone", 'z', () -> x.proof(0, 0));
        x.step(0, 0, 'f', 2);
        check.due("15 another zone freed", 'z', () -> x.proof(0, 0));
        x.step(1, 0, 'f', 3);
        check.due("15 freed by another", 'z', () -> x.proof(0, 0));
        x.step(0, 0, 'f', 3);
        check.due("15 freed", 'p', () -> x.proof(0, 0));
        x.step(1, 0, 'c', 0);
        check.due("15 the second ends with one", 'z', () -> x.proof(0, 0));
        x.step(0, 0, 'c', 0);
        check.due("15 d ahead of z", 'd', () -> x.proof(0, 0));
    }

    private void promise15ProofWrong() {
        Spotbeat x = Lines.pair(0, 50);
        check.fails("15 station", INDEX, () -> x.proof(1, 0));
        check.fails("15 station below", INDEX, () -> x.proof(-1, 0));
        check.fails("15 variant", INDEX, () -> x.proof(0, 4));
        check.fails("15 variant below", INDEX, () -> x.proof(0, -1));
        check.fails("16 station", INDEX, () -> x.states(1, 0));
        check.fails("16 variant", INDEX, () -> x.states(0, 4));
    }

    private void promise16States() {
        Spotbeat x = Lines.bare(2);
        check.due("16 no robots", 1, () -> x.states(1, 0));
        x.robot(0, 0, 12);
        check.due("16 no steps", 1, () -> x.states(0, 0));
        x.robot(0, 50, 12);
        x.robot(0, 100, 12);
        for (int robot = 0; robot < 3; robot++) {
            for (int i = 0; i < 12; i++) {
                x.step(robot, 1, 'f', i % 4);
            }
        }
        check.due("16 as many as can be", 2197, () -> x.states(0, 1));
        check.due("16 another variant", 1, () -> x.states(0, 0));
        x.erase(1, 1);
        check.due("16 without the second", 169, () -> x.states(0, 1));
        x.step(0, 0, 'c', 0);
        x.step(2, 0, 'c', 0);
        x.step(2, 0, 'f', 0);
        // Ways: 0,0 1,0 0,1 0,2 1,2; with the first one in the zone the last one has no way on.
        check.due("16 not all can be reached", 5, () -> x.states(0, 0));
    }

    private void promise17Uncovered() {
        Spotbeat x = Lines.twoSpots();
        x.spot(0, 1, 100, 2, 1, true);
        check.due("17 without robots", 2, () -> x.uncovered(0));
        check.due("17 variant 1", 3, () -> x.uncovered(1));
        x.station();
        x.station();
        x.robot(1, 22, 12);
        x.step(0, 0, 'w', 1);
        check.due("17 left out as it is run", 2, () -> x.uncovered(0));
        x.step(0, 0, 'w', 0);
        check.due("17 one is made", 1, () -> x.uncovered(0));
        check.due("17 by variants", 3, () -> x.uncovered(1));
        x.die(0, true);
        check.due("17 by a dead one too", 1, () -> x.uncovered(0));
        x.step(0, 0, 'm', 52);
        x.step(0, 0, 'w', 1);
        check.due("17 all are made", 0, () -> x.uncovered(0));
        check.fails("17 below", INDEX, () -> x.uncovered(-1));
        check.fails("17 above", INDEX, () -> x.uncovered(4));
    }

    private void promise18Deal() {
        Spotbeat x = Lines.twoSpots();
        check.due("18 without robots", 0, () -> x.deal(0));
        x.station();
        x.station();
        x.robot(1, 22, 12);
        check.due("18 a g spot at the first station alone", 1, () -> x.deal(0));
        check.due("18 the r spot went there", 2, () -> x.steps(0, 0));
        check.due("18 as a weld", 1, () -> x.welds(0, 0));
        check.due("18 what is left", 1, () -> x.uncovered(0));
        check.due("18 not twice", 0, () -> x.deal(0));
        x.robot(0, 117, 1);
        check.due("18 not reached", 0, () -> x.deal(0));
        x.robot(0, 22, 1);
        check.due("18 reached", 1, () -> x.deal(0));
        check.due("18 by it", 2, () -> x.steps(2, 0));
        check.due("18 another variant", 2, () -> x.deal(3));
        check.due("18 of that variant", 2, () -> x.steps(2, 3));
        check.due("18 none between", 0, () -> x.steps(2, 1));
        check.fails("18 below", INDEX, () -> x.deal(-1));
        check.fails("18 above", INDEX, () -> x.deal(4));
    }

    private void promise18DealChoice() {
        Spotbeat x = Lines.twoSpots();
        x.station();
        x.robot(0, 22, 12);
        x.robot(0, 32, 12);
        x.step(0, 0, 'f', 0);
        check.due("18 the shorter program", 2, () -> x.deal(0));
        check.due("18 g to the empty one", 2, () -> x.steps(1, 0));
        check.due("18 r to the one of one step", 3, () -> x.steps(0, 0));
        check.due("18 of several the lowest", 2, () -> x.deal(1));
        check.due("18 lowest takes the first", 2, () -> x.steps(0, 1));
        check.due("18 next takes the second", 2, () -> x.steps(1, 1));
        for (int i = 0; i < 10; i++) {
            x.step(0, 2, 'f', 0);
            x.step(1, 2, 'f', 0);
        }
        x.step(1, 2, 'f', 0);
        check.due("18 ten steps leave room", 1, () -> x.deal(2));
        check.due("18 up to twelve", 12, () -> x.steps(0, 2));
        check.due("18 eleven leave none", 11, () -> x.steps(1, 2));
        for (int i = 0; i < 11; i++) {
            x.step(0, 3, 'f', 0);
        }
        x.step(1, 3, 'm', 22);
        check.due("18 the m is put even where the robot is", 2, () -> x.deal(3));
        check.due("18 both to the shorter one", 5, () -> x.steps(1, 3));
    }

    private void promise19Order() {
        Spotbeat x = new Spotbeat();
        check.fails("19 below", INDEX, () -> x.order(-1));
        check.fails("19 above", INDEX, () -> x.order(4));
        for (int i = 0; i < 40; i++) {
            int number = i;
            check.due("19 order " + i, i, () -> x.order(number % 4));
        }
        check.fails("19 a 41st", STATE, () -> x.order(0));
        check.fails("19 index ahead of state", INDEX, () -> x.order(4));
        check.due("19 all wait", 40, () -> x.waiting());
    }

    private void promise20Beat() {
        Spotbeat none = new Spotbeat();
        none.order(0);
        check.fails("20 no stations", UNSUPPORTED, () -> none.beat());
        check.due("20 nothing changed", 0, () -> none.beats());
        Spotbeat x = Lines.bare(3);
        check.due("20 nothing to do", 0, () -> x.beat());
        x.order(0);
        x.order(0);
        check.due("20 the first comes", 0, () -> x.beat());
        check.due("20 to the first station", 0, () -> x.where(0));
        check.due("20 all go on", 0, () -> x.beat());
        check.due("20 the first went on", 1, () -> x.where(0));
        check.due("20 the next came", 0, () -> x.where(1));
        x.stand(1, true);
        check.due("20 one stands", 0, () -> x.beat());
        check.due("20 its body stays", 1, () -> x.where(0));
        check.due("20 the one behind too", 0, () -> x.where(1));
        x.stand(1, false);
        x.stand(2, true);
        check.due("20 the last stands", 0, () -> x.beat());
        check.due("20 but takes a body", 2, () -> x.where(0));
        check.due("20 and the next goes on", 1, () -> x.where(1));
        x.stand(2, false);
        check.due("20 off the line", 1, () -> x.beat());
        check.due("20 as told", -2, () -> x.where(0));
        check.due("20 the last is filled again", 2, () -> x.where(1));
        Spotbeat stands = Lines.bare(1);
        stands.order(0);
        stands.stand(0, true);
        stands.beat();
        check.due("20 a standing first station takes one", 0, () -> stands.at(0));
        Spotbeat full = Lines.bare(1);
        full.order(0);
        full.order(0);
        full.beat();
        check.due("20 one off and one on in a beat", 1, () -> full.beat());
        check.due("20 the second is on", 1, () -> full.at(0));
    }

    private void promise20BeatWorksOnce() {
        Spotbeat x = Lines.oneRobot();
        x.station();
        x.order(0);
        x.order(0);
        x.beat();
        check.due("20 not worked as it comes", 2, () -> x.lacks(0));
        x.stand(0, true);
        x.beat();
        check.due("20 a standing station works nothing", 2, () -> x.lacks(0));
        x.stand(0, false);
        x.stand(1, true);
        x.beat();
        check.due("20 worked", 0, () -> x.lacks(0));
        check.due("20 and gone on", 1, () -> x.where(0));
        x.beat();
        check.due("20 the next one worked, but kept", 0, () -> x.where(1));
        check.due("20 the wear of two", 18, () -> x.wear(0));
        Lines.beats(x, 3);
        check.due("20 no more of it", 18, () -> x.wear(0));
        check.due("20 b", 4, () -> x.letters(0, 'b'));
    }

    private void promise20NewStation() {
        Spotbeat x = Lines.bare(1);
        x.order(0);
        x.beat();
        x.station();
        check.due("20 on to a new station", 0, () -> x.beat());
        check.due("20 there", 1, () -> x.where(0));
        check.due("20 and off", 1, () -> x.beat());
    }

    private void promise21Beats() {
        Spotbeat x = new Spotbeat();
        check.fails("21 a beat that fails", UNSUPPORTED, () -> x.beat());
        check.due("21 does not count", 0, () -> x.beats());
        x.station();
        Lines.beats(x, 5);
        check.due("21 beats", 5, () -> x.beats());
    }

    private void promise22At() {
        Spotbeat x = Lines.bare(2);
        check.fails("22 none", NO_ELEMENT, () -> x.at(0));
        x.order(0);
        x.order(0);
        Lines.beats(x, 2);
        check.due("22 first", 1, () -> x.at(0));
        check.due("22 second", 0, () -> x.at(1));
        x.beat();
        check.fails("22 gone", NO_ELEMENT, () -> x.at(0));
        check.fails("22 station", INDEX, () -> x.at(2));
        check.fails("22 station below", INDEX, () -> x.at(-1));
    }

    private void promise23Where() {
        Spotbeat x = Lines.bare(1);
        x.order(0);
        check.due("23 waits", -1, () -> x.where(0));
        x.beat();
        check.due("23 on", 0, () -> x.where(0));
        x.beat();
        check.due("23 off", -2, () -> x.where(0));
        check.fails("23 body", INDEX, () -> x.where(1));
        check.fails("23 body below", INDEX, () -> x.where(-1));
        check.fails("23 body far", INDEX, () -> x.where(40));
    }

    private void promise24Waiting() {
        Spotbeat x = Lines.bare(1);
        check.due("24 none", 0, () -> x.waiting());
        x.order(0);
        x.order(1);
        check.due("24 two", 2, () -> x.waiting());
        x.beat();
        check.due("24 one", 1, () -> x.waiting());
        Lines.beats(x, 2);
        check.due("24 none any more", 0, () -> x.waiting());
    }

    private void promise25Stand() {
        Spotbeat x = Lines.bare(2);
        check.due("25 did not stand", false, () -> x.stand(1, true));
        check.due("25 stood", true, () -> x.stand(1, true));
        check.due("25 stood till now", true, () -> x.stand(1, false));
        check.due("25 goes on", false, () -> x.stand(1, false));
        check.due("25 the other one", false, () -> x.stand(0, false));
        check.fails("25 station", INDEX, () -> x.stand(2, true));
        check.fails("25 station below", INDEX, () -> x.stand(-1, true));
    }

    private void promise26Letters() {
        Spotbeat x = Lines.bare(2);
        x.order(0);
        x.order(0);
        x.beat();
        check.due("26 empty ahead of the beat", 1, () -> x.letters(0, 'e'));
        x.beat();
        check.due("26 worked", 1, () -> x.letters(0, 'w'));
        check.due("26 empty till its end", 2, () -> x.letters(1, 'e'));
        x.stand(1, true);
        x.beat();
        check.due("26 stands with a body", 1, () -> x.letters(1, 's'));
        check.due("26 blocked at once", 1, () -> x.letters(0, 'b'));
        x.beat();
        check.due("26 blocked on", 2, () -> x.letters(0, 'b'));
        x.stand(0, true);
        x.beat();
        check.due("26 stands, though it could be blocked", 1, () -> x.letters(0, 's'));
        x.stand(0, false);
        x.stand(1, false);
        x.beat();
        check.due("26 goes on", 2, () -> x.letters(0, 'w'));
        check.due("26 off", 1, () -> x.letters(1, 'w'));
        x.stand(0, true);
        x.beat();
        check.due("26 stands, though it is empty", 2, () -> x.letters(0, 's'));
        check.due("26 no e of it", 1, () -> x.letters(0, 'e'));
        check.fails("26 letter", ARGUMENT, () -> x.letters(0, 'x'));
        check.fails("26 letter in capitals", ARGUMENT, () -> x.letters(0, 'S'));
        check.fails("26 station", INDEX, () -> x.letters(2, 's'));
        check.fails("26 index first", INDEX, () -> x.letters(-1, 'x'));
    }

    private void promise27Die() {
        Spotbeat x = Lines.oneRobot();
        check.due("27 alive", false, () -> x.die(0, true));
        check.due("27 dead", true, () -> x.die(0, true));
        check.fails("27 robot", INDEX, () -> x.die(1, true));
        check.fails("27 robot below", INDEX, () -> x.die(-1, true));
        x.order(0);
        Lines.beats(x, 2);
        check.due("27 a dead one makes nothing", 2, () -> x.lacks(0));
        check.due("27 nor wears its tip", 0, () -> x.wear(0));
        check.due("27 dead till now", true, () -> x.die(0, false));
        x.order(0);
        Lines.beats(x, 2);
        check.due("27 alive again it does", 0, () -> x.lacks(1));
    }

    private void promise28StandIn() {
        Spotbeat x = Lines.pair(0, 50);
        check.due("28 nobody", -1, () -> x.standIn(0, 1));
        check.due("28 the other", 1, () -> x.standIn(0, -1));
        check.due("28 nobody again", -1, () -> x.standIn(0, -1));
        check.due("28 each for the other", -1, () -> x.standIn(1, 0));
        check.due("28 first one free of it", -1, () -> x.standIn(0, 1));
        check.fails("28 itself", ARGUMENT, () -> x.standIn(1, 1));
        check.fails("28 robot", INDEX, () -> x.standIn(2, 1));
        check.fails("28 other", INDEX, () -> x.standIn(1, 2));
        check.fails("28 other below", INDEX, () -> x.standIn(1, -2));
        check.fails("28 both beyond", INDEX, () -> x.standIn(2, 2));
        check.fails("28 robot -1", INDEX, () -> x.standIn(-1, 0));
        check.fails("28 both -1", INDEX, () -> x.standIn(-1, -1));
        check.due("28 unchanged by faults", 0, () -> x.standIn(1, -1));
    }

    private void promise28StandInWelds() {
        Spotbeat x = Lines.oneRobot();
        x.station();
        x.robot(1, 33, 1);
        x.robot(1, 50, 12);
        x.die(0, true);
        x.standIn(0, 1);
        x.standIn(1, 2);
        x.order(0);
        Lines.beats(x, 2);
        check.due("28 made by the one that reaches it", 1, () -> x.maker(0, 0));
        check.due("28 what it does not reach is lacking", 1, () -> x.firstLacking(0));
        check.due("28 its own tip", 4, () -> x.wear(1));
        check.due("28 not the dead one's", 0, () -> x.wear(0));
        check.due("28 its own count", 1, () -> x.made(1));
        check.due("28 nor a further one's", 0, () -> x.wear(2));
        x.current(0, 30);
        x.current(1, 3);
        x.order(0);
        Lines.beats(x, 2);
        check.due("28 its own current", 2, () -> x.lacks(1));
        check.due("28 wears all the same", 8, () -> x.wear(1));
        x.current(1, 30);
        x.die(1, true);
        x.order(0);
        Lines.beats(x, 2);
        check.due("28 a dead one stands in for nobody", 2, () -> x.lacks(2));
        x.standIn(0, 2);
        x.order(0);
        Lines.beats(x, 2);
        check.due("28 another one of another station", 0, () -> x.lacks(3));
        check.due("28 as maker", 2, () -> x.maker(3, 1));
        x.die(0, false);
        x.order(0);
        Lines.beats(x, 2);
        check.due("28 alive it makes its own", 0, () -> x.maker(4, 0));
    }

    private void promise29Wear() {
        Spotbeat x = Lines.oneRobot();
        check.due("29 none", 0, () -> x.wear(0));
        x.order(0);
        x.order(1);
        Lines.beats(x, 2);
        check.due("29 the needs of both", 9, () -> x.wear(0));
        x.beat();
        check.due("29 no program, no wear", 9, () -> x.wear(0));
        x.current(0, 1);
        x.order(0);
        Lines.beats(x, 2);
        check.due("29 good or not", 18, () -> x.wear(0));
        check.due("29 not good", 2, () -> x.lacks(2));
        check.fails("29 robot", INDEX, () -> x.wear(1));
        check.fails("29 robot below", INDEX, () -> x.wear(-1));
        wearByFifths();
        wearOfFive();
    }

    private void wearByFifths() {
        Spotbeat x = new Spotbeat();
        x.panel(0);
        x.panel(0);
        x.spot(0, 1, 0, 1, 4, true);
        x.station();
        x.robot(0, 0, 1);
        x.current(0, 5);
        x.step(0, 0, 'w', 0);
        for (int i = 0; i < 4; i++) {
            x.order(0);
        }
        Lines.beats(x, 2);
        check.due("29 new tip", 0, () -> x.lacks(0));
        x.beat();
        check.due("29 wear 4 takes nothing", 0, () -> x.lacks(1));
        x.beat();
        check.due("29 wear 8 takes one", 0, () -> x.lacks(2));
        x.beat();
        check.due("29 wear 12 takes two", 1, () -> x.lacks(3));
        check.due("29 three were good", 3, () -> x.made(0));
    }

    private void wearOfFive() {
        Spotbeat x = new Spotbeat();
        x.panel(0);
        x.panel(0);
        x.spot(0, 1, 0, 1, 5, true);
        x.station();
        x.robot(0, 0, 1);
        x.current(0, 5);
        x.step(0, 0, 'w', 0);
        x.order(0);
        x.order(0);
        Lines.beats(x, 3);
        check.due("29 none yet", 0, () -> x.lacks(0));
        check.due("29 wear 5 takes one", 1, () -> x.lacks(1));
    }

    private void promise30Dress() {
        Spotbeat x = Lines.oneRobot();
        x.order(0);
        Lines.beats(x, 2);
        check.due("30 first", 4, () -> x.dress(0));
        check.due("30 no wear", 0, () -> x.wear(0));
        for (int left = 3; left >= 0; left--) {
            check.due("30 left " + left, left, () -> x.dress(0));
        }
        x.order(0);
        Lines.beats(x, 2);
        check.fails("30 to be changed", UNSUPPORTED, () -> x.dress(0));
        check.due("30 keeps its wear", 9, () -> x.wear(0));
        check.fails("30 robot", INDEX, () -> x.dress(1));
        check.fails("30 robot below", INDEX, () -> x.dress(-1));
        x.change(0);
        check.due("30 changed", 4, () -> x.dress(0));
    }

    private void promise31Change() {
        Spotbeat x = Lines.oneRobot();
        x.order(0);
        Lines.beats(x, 2);
        check.due("31 never dressed", 0, () -> x.change(0));
        check.due("31 no wear", 0, () -> x.wear(0));
        for (int i = 0; i < 5; i++) {
            x.dress(0);
        }
        check.due("31 dressed five times", 5, () -> x.change(0));
        check.due("31 the new one not at all", 0, () -> x.change(0));
        check.fails("31 robot", INDEX, () -> x.change(1));
        check.fails("31 robot below", INDEX, () -> x.change(-1));
    }

    private void promise32Made() {
        Spotbeat x = Lines.twoSpots();
        x.station();
        x.robot(0, 22, 12);
        x.step(0, 0, 'w', 0);
        x.step(0, 0, 'w', 0);
        check.due("32 none", 0, () -> x.made(0));
        x.order(0);
        Lines.beats(x, 2);
        check.due("32 those not lacking too", 2, () -> x.made(0));
        x.erase(0, 0);
        x.step(0, 0, 'm', 52);
        x.step(0, 0, 'w', 1);
        x.step(0, 0, 'm', 22);
        x.step(0, 0, 'w', 0);
        x.order(0);
        Lines.beats(x, 2);
        check.due("32 an r spot ahead of its g spots is not good", 3, () -> x.made(0));
        check.due("32 so it is lacking", 1, () -> x.firstLacking(1));
        check.due("32 but wore", 17, () -> x.wear(0));
        x.current(0, 4);
        x.order(0);
        Lines.beats(x, 2);
        check.due("32 too weak", 3, () -> x.made(0));
        check.fails("32 robot", INDEX, () -> x.made(1));
        check.fails("32 robot below", INDEX, () -> x.made(-1));
    }

    private void promise33Lacks() {
        Spotbeat x = Lines.oneRobot();
        x.order(0);
        check.due("33 as it waits", 2, () -> x.lacks(0));
        Lines.beats(x, 2);
        check.due("33 off the line", 0, () -> x.lacks(0));
        x.spot(0, 1, 0, 1, 1, true);
        check.due("33 one told later", 1, () -> x.lacks(0));
        x.spot(0, 1, 0, 14, 1, true);
        check.due("33 not one of other variants", 1, () -> x.lacks(0));
        check.fails("33 body", INDEX, () -> x.lacks(1));
        check.fails("33 body below", INDEX, () -> x.lacks(-1));
    }

    private void promise34IsLacking() {
        Spotbeat x = Lines.oneRobot();
        x.spot(0, 1, 0, 14, 1, false);
        x.order(0);
        x.order(1);
        check.due("34 lacking", true, () -> x.isLacking(0, 0));
        check.due("34 not of its variant", false, () -> x.isLacking(0, 2));
        Lines.beats(x, 2);
        check.due("34 made", false, () -> x.isLacking(0, 0));
        check.due("34 the next one's", true, () -> x.isLacking(1, 0));
        check.fails("34 body", INDEX, () -> x.isLacking(2, 0));
        check.fails("34 spot", INDEX, () -> x.isLacking(0, 3));
        check.fails("34 spot below", INDEX, () -> x.isLacking(0, -1));
        check.fails("34 body below", INDEX, () -> x.isLacking(-1, 0));
    }

    private void promise35FirstLacking() {
        Spotbeat x = Lines.oneRobot();
        x.order(0);
        check.due("35 the lowest", 0, () -> x.firstLacking(0));
        x.current(0, 4);
        Lines.beats(x, 2);
        check.due("35 the next", 1, () -> x.firstLacking(0));
        x.mend(0, 1);
        check.fails("35 none", NO_ELEMENT, () -> x.firstLacking(0));
        check.fails("35 body", INDEX, () -> x.firstLacking(1));
        check.fails("35 body below", INDEX, () -> x.firstLacking(-1));
    }

    private void promise36Mend() {
        Spotbeat x = Lines.twoSpots();
        x.spot(0, 1, 0, 14, 1, false);
        x.station();
        x.order(0);
        check.fails("36 waits", UNSUPPORTED, () -> x.mend(0, 0));
        x.beat();
        check.fails("36 on the line", UNSUPPORTED, () -> x.mend(0, 0));
        x.beat();
        check.due("36 an r spot ahead of a g spot", 1, () -> x.mend(0, 1));
        check.fails("36 made already", UNSUPPORTED, () -> x.mend(0, 1));
        check.fails("36 not of its variant", UNSUPPORTED, () -> x.mend(0, 2));
        check.due("36 the last", 0, () -> x.mend(0, 0));
        check.due("36 the measure stays", 5, () -> x.measure(0));
        check.fails("36 body", INDEX, () -> x.mend(1, 0));
        check.fails("36 body below", INDEX, () -> x.mend(-1, 0));
        check.fails("36 spot", INDEX, () -> x.mend(0, 3));
        check.fails("36 spot below", INDEX, () -> x.mend(0, -1));
    }

    private void promise37Maker() {
        Spotbeat x = Lines.oneRobot();
        x.spot(0, 1, 0, 14, 1, false);
        x.robot(0, 23, 12);
        x.step(1, 0, 'm', 22);
        x.step(1, 0, 'w', 0);
        x.current(0, 4);
        x.order(0);
        check.fails("37 lacking", NO_ELEMENT, () -> x.maker(0, 0));
        Lines.beats(x, 2);
        check.due("37 who made it first", 0, () -> x.maker(0, 0));
        check.due("37 though another one did, too", 1, () -> x.made(1));
        check.fails("37 too weak", NO_ELEMENT, () -> x.maker(0, 1));
        x.mend(0, 1);
        check.due("37 by hand", -1, () -> x.maker(0, 1));
        check.fails("37 not of its variant", NO_ELEMENT, () -> x.maker(0, 2));
        check.fails("37 body", INDEX, () -> x.maker(1, 0));
        check.fails("37 body below", INDEX, () -> x.maker(-1, 0));
        check.fails("37 spot", INDEX, () -> x.maker(0, 3));
        check.fails("37 spot below", INDEX, () -> x.maker(0, -1));
    }

    private void promise38Whole() {
        Spotbeat x = Lines.oneRobot();
        x.order(0);
        x.order(1);
        check.due("38 none", 0, () -> x.whole());
        x.beat();
        x.station();
        x.beat();
        check.due("38 not on the line", 0, () -> x.whole());
        Lines.beats(x, 3);
        check.due("38 one of two", 1, () -> x.whole());
        x.mend(1, 0);
        x.mend(1, 1);
        check.due("38 both", 2, () -> x.whole());
        x.spot(0, 1, 0, 2, 1, false);
        check.due("38 one told later", 1, () -> x.whole());
        Spotbeat bare = Lines.bare(1);
        bare.order(0);
        check.due("38 one that waits", 0, () -> bare.whole());
        Lines.beats(bare, 2);
        check.due("38 nothing to lack", 1, () -> bare.whole());
    }

    private void promise39Offset() {
        Spotbeat x = Lines.bare(2);
        check.due("39 at first", 0, () -> x.offset(0, 99));
        check.due("39 most", 99, () -> x.offset(0, -99));
        check.fails("39 above", ARGUMENT, () -> x.offset(0, 100));
        check.fails("39 below", ARGUMENT, () -> x.offset(0, -100));
        check.fails("39 far below", ARGUMENT, () -> x.offset(0, LEAST));
        check.due("39 least", -99, () -> x.offset(0, 0));
        check.due("39 the other one", 0, () -> x.offset(1, 1));
        check.fails("39 station", INDEX, () -> x.offset(2, 100));
        check.fails("39 station below", INDEX, () -> x.offset(-1, 0));
    }

    private void promise40Measure() {
        Spotbeat x = Lines.twoSpots();
        x.spot(0, 1, 0, 1, 1, false);
        x.station();
        x.station();
        x.offset(0, 30);
        x.offset(1, -7);
        x.order(0);
        check.fails("40 waits", NO_ELEMENT, () -> x.measure(0));
        Lines.beats(x, 2);
        check.fails("40 on the line", NO_ELEMENT, () -> x.measure(0));
        x.offset(1, -8);
        x.beat();
        check.due("40 offsets, 4 and twice 1", 28, () -> x.measure(0));
        x.offset(0, 0);
        x.mend(0, 0);
        x.spot(0, 1, 0, 1, 1, true);
        check.due("40 as it came off", 28, () -> x.measure(0));
        check.fails("40 body", INDEX, () -> x.measure(1));
        check.fails("40 body below", INDEX, () -> x.measure(-1));
    }

    private void promise41FeedBack() {
        Spotbeat x = Lines.bare(2);
        check.fails("41 none is off", NO_ELEMENT, () -> x.feedBack(0, 1));
        check.fails("41 no bodies", ARGUMENT, () -> x.feedBack(0, 0));
        check.fails("41 ten bodies", ARGUMENT, () -> x.feedBack(0, 10));
        check.fails("41 station", INDEX, () -> x.feedBack(2, 0));
        check.fails("41 station below", INDEX, () -> x.feedBack(-1, 1));
        int[] offsets = {10, -15, -20};
        for (int i = 0; i < 3; i++) {
            x.order(0);
            Lines.beats(x, 2);
            x.offset(0, offsets[i]);
            x.beat();
        }
        x.offset(0, 0);
        check.due("41 the last one", 10, () -> x.feedBack(0, 1));
        check.due("41 the last two, mean -17, half -8", 8, () -> x.feedBack(1, 2));
        check.due("41 all, mean -8", 14, () -> x.feedBack(0, 3));
        check.due("41 all that there are", 18, () -> x.feedBack(0, 9));
        x.offset(1, 95);
        check.due("41 up to the bound", 99, () -> x.feedBack(1, 1));
        x.offset(0, 99);
        x.order(0);
        Lines.beats(x, 3);
        x.offset(1, -99);
        check.due("41 down to the bound", -99, () -> x.feedBack(1, 1));
        x.offset(1, 0);
        check.due("41 measure 198, half 99", -99, () -> x.feedBack(1, 1));
        feedBackOfForty();
    }

    private void feedBackOfForty() {
        Spotbeat x = Lines.bare(1);
        for (int i = 0; i < 40; i++) {
            x.order(0);
        }
        x.beat();
        for (int i = 0; i < 40; i++) {
            x.offset(0, 2 * i);
            x.beat();
        }
        x.offset(0, 0);
        check.due("41 the very last", -39, () -> x.feedBack(0, 1));
        x.offset(0, 0);
        check.due("41 nine, 78 down to 62", -35, () -> x.feedBack(0, 9));
    }

    private void promise42Checksum() {
        Spotbeat x = Lines.twoSpots();
        x.station();
        x.order(0);
        check.due("42 waits", 31L * 7 - 1 + 2, () -> x.checksum());
        x.beat();
        check.due("42 on the line", 31L * 7 + 0 + 2, () -> x.checksum());
        x.order(0);
        x.offset(0, -50);
        x.beat();
        check.due("42 one off, one on", 31L * (31 * 7 - 2 + 2 - 45) + 0 + 2, () -> x.checksum());
        for (int i = 2; i < 40; i++) {
            x.order(0);
        }
        long sum = 31L * (31 * 7 - 2 + 2 - 45) + 2;
        for (int i = 2; i < 40; i++) {
            sum = 31 * sum + 1;
        }
        long want = sum;
        check.due("42 forty of them wrap around", want, () -> x.checksum());
    }

    private void promise43WholeShare() {
        Spotbeat x = Lines.oneRobot();
        check.fails("43 none is off", NO_ELEMENT, () -> x.wholeShare());
        x.order(0);
        x.order(1);
        x.order(0);
        x.beat();
        check.fails("43 none is off yet", NO_ELEMENT, () -> x.wholeShare());
        x.beat();
        check.due("43 all", 1.0f, () -> x.wholeShare());
        Lines.beats(x, 2);
        check.due("43 two of three", 2.0f / 3.0f, () -> x.wholeShare());
    }

    private void promise44MeanMeasure() {
        Spotbeat x = Lines.bare(1);
        check.fails("44 none is off", NO_ELEMENT, () -> x.meanMeasure());
        int[] offsets = {-7, 3, -6};
        for (int offset : offsets) {
            x.offset(0, offset);
            x.order(0);
            Lines.beats(x, 2);
        }
        check.due("44 of three", -10.0 / 3.0, () -> x.meanMeasure());
    }

    private void promise45IsSound() {
        Spotbeat x = Lines.oneRobot();
        check.due("45 at first", true, () -> x.isSound());
        x.robot(0, 117, 1);
        x.die(0, true);
        x.standIn(0, 1);
        for (int i = 0; i < 8; i++) {
            x.order(i % 2);
        }
        for (int i = 0; i < 14; i++) {
            x.beat();
            if (i == 3 || i == 6) {
                x.station();
                x.die(0, false);
            }
            x.stand(0, i % 3 == 1);
            check.due("45 along the way " + i, true, () -> x.isSound());
        }
        x.mend(1, 0);
        check.due("45 made by hand", true, () -> x.isSound());
        Spotbeat blocked = Lines.bare(2);
        blocked.order(0);
        blocked.order(0);
        Lines.beats(blocked, 2);
        blocked.stand(1, true);
        Lines.beats(blocked, 2);
        check.due("45 with a body that waits on", 2, () -> blocked.letters(0, 'b'));
        check.due("45 blocked", true, () -> blocked.isSound());
    }
}
