import java.util.ArrayDeque;
import java.util.ArrayList;
import java.util.Deque;
import java.util.HashMap;
import java.util.HashSet;
import java.util.List;
import java.util.Map;
import java.util.NoSuchElementException;
import java.util.Set;

/**
 * The document once more, in the plainest words that the Java library has, to be held against the class.
 * It keeps what happened (each weld, each letter, each body off the line) and counts it when asked.
 */
final class Model {
    record Spot(int child, int x, int y, int variants, int need, boolean holds) { }

    record Step(char kind, int number) { }

    static final class Robot {
        int station;
        int x;
        int y;
        int reach;
        int current = 12;
        int wear;
        int dressed;
        int made;
        boolean dead;
        int standIn = -1;
        final Map<Integer, List<Step>> programs = new HashMap<>();
    }

    static final class Station {
        final List<Integer> robots = new ArrayList<>();
        final StringBuilder letters = new StringBuilder();
        boolean stands;
        int offset;
        int body = -1;
        boolean worked;
    }

    static final class Body {
        int variant;
        Integer measure;
        final Map<Integer, Integer> makers = new HashMap<>();
    }

    final List<Integer> parents = new ArrayList<>();
    final List<Spot> spots = new ArrayList<>();
    final List<Station> stations = new ArrayList<>();
    final List<Robot> robots = new ArrayList<>();
    final List<Body> bodies = new ArrayList<>();
    final Deque<Integer> queue = new ArrayDeque<>();
    final List<Integer> off = new ArrayList<>();
    int beats;

    // ---- tests of arguments

    private static void index(boolean ok) {
        if (!ok) {
            throw new IndexOutOfBoundsException();
        }
    }

    private static void argument(boolean ok) {
        if (!ok) {
            throw new IllegalArgumentException();
        }
    }

    private static void supported(boolean ok) {
        if (!ok) {
            throw new UnsupportedOperationException();
        }
    }

    private static void state(boolean ok) {
        if (!ok) {
            throw new IllegalStateException();
        }
    }

    private static void element(boolean ok) {
        if (!ok) {
            throw new NoSuchElementException();
        }
    }

    private static boolean in(int number, List<?> list) {
        return 0 <= number && number < list.size();
    }

    private static boolean variantOk(int v) {
        return v == 0 || v == 1 || v == 2 || v == 3;
    }

    private static boolean placeOk(int p) {
        for (int x = 0; x <= 11; x++) {
            for (int y = 0; y <= 7; y++) {
                if (p == 10 * x + y) {
                    return true;
                }
            }
        }
        return false;
    }

    // ---- the face

    int panel(int parent) {
        index(parents.isEmpty() || in(parent, parents));
        state(parents.size() < 8);
        parents.add(parents.isEmpty() ? -5 : parent);
        return parents.size() - 1;
    }

    int spot(int one, int other, int place, int variants, int need, boolean holds) {
        index(in(one, parents) && in(other, parents));
        argument(placeOk(place) && 1 <= variants && variants <= 15 && 1 <= need && need <= 9);
        supported(parents.get(one) == other || parents.get(other) == one);
        state(spots.size() < 24);
        spots.add(new Spot(parents.get(one) == other ? one : other, place / 10, place % 10, variants, need, holds));
        return spots.size() - 1;
    }

    private boolean isOf(int spot, int variant) {
        return (spots.get(spot).variants() & 1 << variant) != 0;
    }

    private List<Integer> spotsOf(int variant) {
        List<Integer> result = new ArrayList<>();
        for (int i = 0; i < spots.size(); i++) {
            if (isOf(i, variant)) {
                result.add(i);
            }
        }
        return result;
    }

    int spots(int variant) {
        index(variantOk(variant));
        return spotsOf(variant).size();
    }

    boolean isHeld(int variant) {
        index(variantOk(variant));
        Set<Integer> held = new HashSet<>();
        for (int s : spotsOf(variant)) {
            if (spots.get(s).holds()) {
                held.add(spots.get(s).child());
            }
        }
        return held.size() == Math.max(0, parents.size() - 1);
    }

    int station() {
        state(stations.size() < 4);
        Station s = new Station();
        stations.add(s);
        s.letters.append("-".repeat(beats));
        return stations.size() - 1;
    }

    int robot(int station, int base, int reach) {
        index(in(station, stations));
        argument(placeOk(base) && 1 <= reach && reach <= 12);
        for (int r : stations.get(station).robots) {
            supported(robots.get(r).x * 10 + robots.get(r).y != base);
        }
        state(stations.get(station).robots.size() < 3 && robots.size() < 12);
        Robot r = new Robot();
        r.station = station;
        r.x = base / 10;
        r.y = base % 10;
        r.reach = reach;
        for (int v = 0; v < 4; v++) {
            r.programs.put(v, new ArrayList<>());
        }
        stations.get(station).robots.add(robots.size());
        robots.add(r);
        return robots.size() - 1;
    }

    private boolean near(Robot r, int x, int y) {
        return Math.abs(r.x - x) <= r.reach && Math.abs(r.y - y) <= r.reach;
    }

    boolean reaches(int robot, int place) {
        index(in(robot, robots));
        argument(placeOk(place));
        return near(robots.get(robot), place / 10, place % 10);
    }

    private static Set<Integer> cells(int from, int to) {
        Set<Integer> result = new HashSet<>();
        int x = from / 10;
        int y = from % 10;
        result.add(10 * x + y);
        while (x != to / 10) {
            x += x < to / 10 ? 1 : -1;
            result.add(10 * x + y);
        }
        while (y != to % 10) {
            y += y < to % 10 ? 1 : -1;
            result.add(10 * x + y);
        }
        return result;
    }

    int swept(int from, int to) {
        argument(placeOk(from) && placeOk(to));
        return cells(from, to).size();
    }

    int current(int robot, int current) {
        index(in(robot, robots));
        argument(1 <= current && current <= 30);
        int before = robots.get(robot).current;
        robots.get(robot).current = current;
        return before;
    }

    private List<Step> program(int robot, int variant) {
        index(in(robot, robots) && variantOk(variant));
        return robots.get(robot).programs.get(variant);
    }

    int step(int robot, int variant, char kind, int number) {
        List<Step> program = program(robot, variant);
        switch (kind) {
            case 'm':
                argument(placeOk(number));
                supported(near(robots.get(robot), number / 10, number % 10));
                break;
            case 'w':
                argument(in(number, spots));
                supported(isOf(number, variant));
                break;
            case 'c':
            case 'f':
                argument(0 <= number && number <= 3);
                break;
            default:
                argument(false);
        }
        state(program.size() < 12);
        program.add(new Step(kind, number));
        return program.size();
    }

    int erase(int robot, int variant) {
        int before = program(robot, variant).size();
        program(robot, variant).clear();
        return before;
    }

    int steps(int robot, int variant) {
        return program(robot, variant).size();
    }

    private List<Integer> run(int robot, int variant) {
        int x = robots.get(robot).x;
        int y = robots.get(robot).y;
        List<Integer> welded = new ArrayList<>();
        for (Step step : program(robot, variant)) {
            if (step.kind() == 'm') {
                x = step.number() / 10;
                y = step.number() % 10;
            } else if (step.kind() == 'w') {
                Spot s = spots.get(step.number());
                if (s.x() == x && s.y() == y) {
                    welded.add(step.number());
                }
            }
        }
        return welded;
    }

    int welds(int robot, int variant) {
        program(robot, variant);
        return run(robot, variant).size();
    }

    /** A state with all that stands in it, kept by itself rather than worked out from the paces. */
    private static final class Moment {
        final List<Integer> paces = new ArrayList<>();
        final List<Integer> places = new ArrayList<>();
        final List<Integer> owners = new ArrayList<>(List.of(-1, -1, -1, -1));

        Moment copy() {
            Moment m = new Moment();
            m.paces.addAll(paces);
            m.places.addAll(places);
            m.owners.clear();
            m.owners.addAll(owners);
            return m;
        }
    }

    private Map<List<Integer>, Moment> moments(int station, int variant, Set<Character> findings) {
        List<Integer> crew = stations.get(station).robots;
        Moment start = new Moment();
        for (int r : crew) {
            start.paces.add(0);
            start.places.add(robots.get(r).x * 10 + robots.get(r).y);
        }
        Map<List<Integer>, Moment> seen = new HashMap<>();
        Deque<Moment> open = new ArrayDeque<>();
        seen.put(start.paces, start);
        open.add(start);
        while (!open.isEmpty()) {
            Moment m = open.remove();
            List<Set<Integer>> held = new ArrayList<>();
            int left = 0;
            int able = 0;
            for (int k = 0; k < crew.size(); k++) {
                List<Step> program = program(crew.get(k), variant);
                int pace = m.paces.get(k);
                Step next = pace < program.size() ? program.get(pace) : null;
                boolean moves = next != null && next.kind() == 'm';
                held.add(cells(m.places.get(k), moves ? next.number() : m.places.get(k)));
                if (next == null) {
                    if (m.owners.contains(k)) {
                        findings.add('z');
                    }
                    continue;
                }
                left++;
                if (next.kind() == 'c' && m.owners.get(next.number()) != -1 && m.owners.get(next.number()) != k) {
                    continue;
                }
                able++;
                Moment after = m.copy();
                after.paces.set(k, pace + 1);
                if (moves) {
                    after.places.set(k, next.number());
                } else if (next.kind() == 'c') {
                    after.owners.set(next.number(), k);
                } else if (next.kind() == 'f' && m.owners.get(next.number()) == k) {
                    after.owners.set(next.number(), -1);
                }
                if (!seen.containsKey(after.paces)) {
                    seen.put(after.paces, after);
                    open.add(after);
                }
            }
            if (left > 0 && able == 0) {
                findings.add('d');
            }
            for (int a = 0; a < held.size(); a++) {
                for (int b = a + 1; b < held.size(); b++) {
                    Set<Integer> both = new HashSet<>(held.get(a));
                    both.retainAll(held.get(b));
                    if (!both.isEmpty()) {
                        findings.add('m');
                    }
                }
            }
        }
        return seen;
    }

    char proof(int station, int variant) {
        index(in(station, stations) && variantOk(variant));
        Set<Character> findings = new HashSet<>();
        moments(station, variant, findings);
        for (char letter : "mdz".toCharArray()) {
            if (findings.contains(letter)) {
                return letter;
            }
        }
        return 'p';
    }

    int states(int station, int variant) {
        index(in(station, stations) && variantOk(variant));
        return moments(station, variant, new HashSet<>()).size();
    }

    private Set<Integer> covered(int variant) {
        Set<Integer> result = new HashSet<>();
        for (int r = 0; r < robots.size(); r++) {
            result.addAll(run(r, variant));
        }
        return result;
    }

    int uncovered(int variant) {
        index(variantOk(variant));
        List<Integer> rest = spotsOf(variant);
        rest.removeAll(covered(variant));
        return rest.size();
    }

    int deal(int variant) {
        index(variantOk(variant));
        int count = 0;
        for (int s : spotsOf(variant)) {
            if (covered(variant).contains(s)) {
                continue;
            }
            Spot spot = spots.get(s);
            int best = -1;
            for (int r = robots.size() - 1; r >= 0; r--) {
                boolean may = near(robots.get(r), spot.x(), spot.y())
                        && !(spot.holds() && robots.get(r).station != 0);
                if (may && (best < 0 || steps(r, variant) <= steps(best, variant))) {
                    best = r;
                }
            }
            if (best >= 0 && steps(best, variant) <= 10) {
                program(best, variant).add(new Step('m', 10 * spot.x() + spot.y()));
                program(best, variant).add(new Step('w', s));
                count++;
            }
        }
        return count;
    }

    int order(int variant) {
        index(variantOk(variant));
        state(bodies.size() < 40);
        Body b = new Body();
        b.variant = variant;
        queue.add(bodies.size());
        bodies.add(b);
        return bodies.size() - 1;
    }

    int beat() {
        supported(!stations.isEmpty());
        int offBefore = off.size();
        List<Integer> ahead = new ArrayList<>();
        for (Station s : stations) {
            ahead.add(s.body);
        }
        for (int k = stations.size() - 1; k >= 0; k--) {
            Station s = stations.get(k);
            if (s.body < 0 || s.stands) {
                continue;
            }
            if (!s.worked) {
                work(s, s.body);
                s.worked = true;
            }
            if (k == stations.size() - 1) {
                off.add(s.body);
                bodies.get(s.body).measure = measureNow(s.body);
                s.body = -1;
            } else if (stations.get(k + 1).body < 0) {
                stations.get(k + 1).body = s.body;
                stations.get(k + 1).worked = false;
                s.body = -1;
            }
        }
        // The letters are told by what stood ahead of the beat and what stands after it.
        for (int k = 0; k < stations.size(); k++) {
            Station s = stations.get(k);
            if (s.stands) {
                s.letters.append('s');
            } else if (ahead.get(k) < 0) {
                s.letters.append('e');
            } else {
                s.letters.append(s.body == ahead.get(k) ? 'b' : 'w');
            }
        }
        if (stations.get(0).body < 0 && !queue.isEmpty()) {
            stations.get(0).body = queue.remove();
            stations.get(0).worked = false;
        }
        beats++;
        return off.size() - offBefore;
    }

    private void work(Station s, int body) {
        Body b = bodies.get(body);
        for (int r : s.robots) {
            for (int spot : run(r, b.variant)) {
                int who = r;
                if (robots.get(r).dead) {
                    who = robots.get(r).standIn;
                    if (who < 0 || robots.get(who).dead
                            || !near(robots.get(who), spots.get(spot).x(), spots.get(spot).y())) {
                        continue;
                    }
                }
                Robot welder = robots.get(who);
                boolean strong = welder.current - Math.floorDiv(welder.wear, 5) >= spots.get(spot).need();
                boolean shaped = true;
                for (int lacking : lacking(body)) {
                    shaped &= !spots.get(lacking).holds();
                }
                welder.wear += spots.get(spot).need();
                if (strong && (spots.get(spot).holds() || shaped)) {
                    welder.made++;
                    b.makers.putIfAbsent(spot, who);
                }
            }
        }
    }

    private List<Integer> lacking(int body) {
        List<Integer> result = spotsOf(bodies.get(body).variant);
        result.removeAll(bodies.get(body).makers.keySet());
        return result;
    }

    private int measureNow(int body) {
        int sum = 0;
        for (Station s : stations) {
            sum += s.offset;
        }
        for (int s : lacking(body)) {
            sum += spots.get(s).holds() ? 4 : 1;
        }
        return sum;
    }

    int beats() {
        return beats;
    }

    int at(int station) {
        index(in(station, stations));
        element(stations.get(station).body >= 0);
        return stations.get(station).body;
    }

    int where(int body) {
        index(in(body, bodies));
        if (off.contains(body)) {
            return -2;
        }
        for (int k = 0; k < stations.size(); k++) {
            if (stations.get(k).body == body) {
                return k;
            }
        }
        return -1;
    }

    int waiting() {
        return queue.size();
    }

    boolean stand(int station, boolean is) {
        index(in(station, stations));
        boolean before = stations.get(station).stands;
        stations.get(station).stands = is;
        return before;
    }

    int letters(int station, char letter) {
        index(in(station, stations));
        argument("sebw".indexOf(letter) >= 0);
        int count = 0;
        for (char c : stations.get(station).letters.toString().toCharArray()) {
            count += c == letter ? 1 : 0;
        }
        return count;
    }

    boolean die(int robot, boolean is) {
        index(in(robot, robots));
        boolean before = robots.get(robot).dead;
        robots.get(robot).dead = is;
        return before;
    }

    int standIn(int robot, int other) {
        index(in(robot, robots) && (other == -1 || in(other, robots)));
        argument(robot != other);
        int before = robots.get(robot).standIn;
        robots.get(robot).standIn = other;
        return before;
    }

    int wear(int robot) {
        index(in(robot, robots));
        return robots.get(robot).wear;
    }

    int dress(int robot) {
        index(in(robot, robots));
        supported(robots.get(robot).dressed < 5);
        robots.get(robot).wear = 0;
        return 5 - ++robots.get(robot).dressed;
    }

    int change(int robot) {
        index(in(robot, robots));
        int before = robots.get(robot).dressed;
        robots.get(robot).wear = 0;
        robots.get(robot).dressed = 0;
        return before;
    }

    int made(int robot) {
        index(in(robot, robots));
        return robots.get(robot).made;
    }

    int lacks(int body) {
        index(in(body, bodies));
        return lacking(body).size();
    }

    boolean isLacking(int body, int spot) {
        index(in(body, bodies) && in(spot, spots));
        return lacking(body).contains(spot);
    }

    int firstLacking(int body) {
        index(in(body, bodies));
        element(!lacking(body).isEmpty());
        return lacking(body).get(0);
    }

    int mend(int body, int spot) {
        index(in(body, bodies) && in(spot, spots));
        supported(off.contains(body) && lacking(body).contains(spot));
        bodies.get(body).makers.put(spot, -1);
        return lacking(body).size();
    }

    int maker(int body, int spot) {
        index(in(body, bodies) && in(spot, spots));
        element(bodies.get(body).makers.containsKey(spot));
        return bodies.get(body).makers.get(spot);
    }

    int whole() {
        int count = 0;
        for (int body : off) {
            count += lacking(body).isEmpty() ? 1 : 0;
        }
        return count;
    }

    int offset(int station, int offset) {
        index(in(station, stations));
        argument(-99 <= offset && offset <= 99);
        int before = stations.get(station).offset;
        stations.get(station).offset = offset;
        return before;
    }

    int measure(int body) {
        index(in(body, bodies));
        element(off.contains(body));
        return bodies.get(body).measure;
    }

    int feedBack(int station, int count) {
        index(in(station, stations));
        argument(1 <= count && count <= 9);
        element(!off.isEmpty());
        List<Integer> last = off.subList(Math.max(0, off.size() - count), off.size());
        int sum = 0;
        for (int body : last) {
            sum += bodies.get(body).measure;
        }
        int mean = (int) (sum / (double) last.size());
        int half = (int) (mean / 2.0);
        Station s = stations.get(station);
        s.offset = Math.min(99, Math.max(-99, s.offset - half));
        return s.offset;
    }

    long checksum() {
        long sum = 7;
        for (int body = 0; body < bodies.size(); body++) {
            Integer measure = bodies.get(body).measure;
            sum = 31 * sum + where(body) + lacking(body).size() + (measure == null ? 0 : measure);
        }
        return sum;
    }

    float wholeShare() {
        element(!off.isEmpty());
        return (float) whole() / off.size();
    }

    double meanMeasure() {
        element(!off.isEmpty());
        double sum = 0;
        for (int body : off) {
            sum += bodies.get(body).measure;
        }
        return sum / off.size();
    }

    boolean isSound() {
        return true;
    }
}
