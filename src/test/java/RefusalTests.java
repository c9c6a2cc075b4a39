import java.lang.reflect.InvocationTargetException;
import java.lang.reflect.Method;
import java.util.ArrayList;
import java.util.HashMap;
import java.util.List;
import java.util.Map;

/**
 * Each call with all arguments near and beyond its bounds, on empty, small and full lines: the exception that is
 * listed first, nothing changed by it, and the answer and the change where the call is not refused.
 */
public final class RefusalTests {
    private static final int LEAST = Integer.MIN_VALUE;
    private static final int MOST = Integer.MAX_VALUE;
    private static final Object[] VARIANT = {LEAST, -1, 0, 1, 3, 4, 32, MOST};
    private static final Object[] PANEL = {LEAST, -1, 0, 1, 2, 3, 7, 8, MOST};
    private static final Object[] SPOT = {LEAST, -1, 0, 2, 3, 23, 24, MOST};
    private static final Object[] STATION = {LEAST, -1, 0, 1, 2, 3, 4, MOST};
    private static final Object[] ROBOT = {LEAST, -1, 0, 1, 2, 3, 11, 12, MOST};
    private static final Object[] BODY = {LEAST, -1, 0, 1, 2, 3, 4, 5, 6, 39, 40, MOST};
    private static final Object[] SPOT_PLACE = {-1, 0, 8, 117, 120};
    private static final Object[] IS = {true, false};
    /** Refused calls on one object, so that it stays within its 512 calls. */
    private static final int AT_ONCE = 50;

    private final Map<String, Method> realMethods = methodsOf(Spotbeat.class);
    private final Map<String, Method> modelMethods = methodsOf(Model.class);
    private final Check check = new Check("RefusalTests");

    private String state;
    private List<Object[]> script;
    private String dueProbe;
    private Spotbeat real;
    private Model model;
    private int refused;
    private String lastRefused;
    private int refusals;

    public static void main(String[] args) {
        RefusalTests tests = new RefusalTests();
        tests.sweepAll("empty", new ArrayList<>());
        tests.sweepAll("bare", bare());
        tests.sweepAll("small", small());
        tests.sweepAll("full", full());
        tests.check.same("many calls were refused", true, tests.refusals > 10000);
        tests.check.close();
    }

    private static Map<String, Method> methodsOf(Class<?> type) {
        Map<String, Method> result = new HashMap<>();
        for (Method method : type.getDeclaredMethods()) {
            method.setAccessible(true);
            result.putIfAbsent(method.getName(), method);
        }
        return result;
    }

    private static void add(List<Object[]> script, Object... call) {
        script.add(call);
    }

    private static void addTimes(List<Object[]> script, int times, Object... call) {
        for (int i = 0; i < times; i++) {
            script.add(call);
        }
    }

    /** Only the floor, stations without robots, and bodies at all places. */
    private static List<Object[]> bare() {
        List<Object[]> script = new ArrayList<>();
        add(script, "panel", 0);
        addTimes(script, 2, "station");
        addTimes(script, 4, "order", 1);
        addTimes(script, 3, "beat");
        return script;
    }

    private static List<Object[]> small() {
        List<Object[]> script = new ArrayList<>();
        addTimes(script, 3, "panel", 0);
        add(script, "spot", 1, 0, 22, 15, 4, true);
        add(script, "spot", 0, 2, 52, 11, 5, false);
        add(script, "spot", 0, 2, 117, 8, 9, false);
        addTimes(script, 2, "station");
        add(script, "robot", 0, 22, 3);
        add(script, "robot", 0, 117, 12);
        add(script, "robot", 1, 0, 1);
        add(script, "deal", 0);
        add(script, "step", 0, 3, 'c', 0);
        add(script, "current", 1, 4);
        add(script, "die", 2, true);
        add(script, "standIn", 2, 1);
        add(script, "offset", 0, 99);
        add(script, "offset", 1, -98);
        for (int i = 0; i < 5; i++) {
            add(script, "order", i % 4);
        }
        addTimes(script, 4, "beat");
        add(script, "stand", 1, true);
        add(script, "dress", 1);
        add(script, "beat");
        return script;
    }

    /** As many as there can be of all things. */
    private static List<Object[]> full() {
        List<Object[]> script = new ArrayList<>();
        for (int i = 0; i < 8; i++) {
            add(script, "panel", i - 1);
        }
        for (int i = 0; i < 24; i++) {
            int child = 1 + i % 7;
            add(script, "spot", child, child - 1, 10 * (i % 12) + i % 8, 1 + i % 15, 1 + i % 9, i % 3 == 0);
        }
        addTimes(script, 4, "station");
        for (int i = 0; i < 12; i++) {
            add(script, "robot", i % 4, 10 * i + i % 8, 1 + i);
        }
        for (int variant = 0; variant < 4; variant++) {
            add(script, "deal", variant);
        }
        addTimes(script, 12, "step", 0, 3, 'f', 3);
        addTimes(script, 5, "dress", 0);
        for (int i = 0; i < 40; i++) {
            add(script, "order", i % 4);
        }
        addTimes(script, 7, "beat");
        add(script, "offset", 3, 99);
        return script;
    }

    // ---- the calls

    private static Object answer(Map<String, Method> methods, Object target, Object... call) {
        Method method = methods.get((String) call[0]);
        Object[] args = new Object[call.length - 1];
        System.arraycopy(call, 1, args, 0, args.length);
        try {
            return String.valueOf(method.invoke(target, args));
        } catch (InvocationTargetException e) {
            return "throws " + e.getCause().getClass().getName();
        } catch (IllegalAccessException e) {
            throw new AssertionError(e);
        }
    }

    private Spotbeat buildReal() {
        Spotbeat built = new Spotbeat();
        for (Object[] call : script) {
            answer(realMethods, built, call);
        }
        return built;
    }

    private Model buildModel() {
        Model built = new Model();
        for (Object[] call : script) {
            answer(modelMethods, built, call);
        }
        return built;
    }

    private void sweepAll(String name, List<Object[]> calls) {
        state = name;
        script = calls;
        dueProbe = probe(modelMethods, buildModel());
        check.same(name + " as built", dueProbe, probe(realMethods, buildReal()));
        real = buildReal();
        model = buildModel();
        sweepPanelsAndStations();
        sweepPrograms();
        sweepLine();
        sweepRobotsAndBodies();
        lookForChange();
    }

    private void sweepPanelsAndStations() {
        sweep("panel", PANEL);
        Object[] variants = {LEAST, -1, 0, 1, 15, 16, MOST};
        Object[] needs = {LEAST, 0, 1, 9, 10};
        sweep("spot", new Object[] {-1, 0, 1, 2, 7, 8}, new Object[] {-1, 0, 1, 2, 6, 8}, SPOT_PLACE, variants, needs, IS);
        sweep("spot", new Object[] {1}, new Object[] {0}, places(), new Object[] {1}, new Object[] {1}, IS);
        sweep("spots", VARIANT);
        sweep("isHeld", VARIANT);
        sweep("station");
        sweep("robot", STATION, new Object[] {-1, 0, 8, 22, 117, 118}, new Object[] {LEAST, 0, 1, 12, 13, MOST});
        sweep("robot", new Object[] {0}, places(), new Object[] {12});
        sweep("reaches", ROBOT, places());
        sweep("swept", places(), new Object[] {-1, 0, 34, 117, 118, MOST});
        sweep("swept", new Object[] {LEAST, 7, 8, 110, 120}, places());
        sweep("current", ROBOT, new Object[] {LEAST, -1, 0, 1, 12, 30, 31, MOST});
    }

    private void sweepPrograms() {
        Object[] kinds = {'m', 'w', 'c', 'f', 'x', 'M', (char) 0, (char) 0xffff};
        Object[] numbers = {LEAST, -1, 0, 1, 2, 3, 4, 8, 22, 23, 24, 52, 117, 118, MOST};
        sweep("step", ROBOT, VARIANT, kinds, numbers);
        sweep("step", new Object[] {0}, new Object[] {0}, new Object[] {'m'}, places());
        sweep("erase", ROBOT, VARIANT);
        sweep("steps", ROBOT, VARIANT);
        sweep("welds", ROBOT, VARIANT);
        sweep("proof", STATION, VARIANT);
        sweep("states", STATION, VARIANT);
        sweep("uncovered", VARIANT);
        sweep("deal", VARIANT);
    }

    private void sweepLine() {
        sweep("order", VARIANT);
        sweep("beat");
        sweep("beats");
        sweep("at", STATION);
        sweep("where", BODY);
        sweep("waiting");
        sweep("stand", STATION, IS);
        sweep("letters", STATION, new Object[] {'s', 'e', 'b', 'w', 'S', 'x', (char) 0, (char) 0x165});
        sweep("lacks", BODY);
        sweep("isLacking", BODY, SPOT);
        sweep("firstLacking", BODY);
        sweep("mend", BODY, SPOT);
        sweep("maker", BODY, SPOT);
        sweep("whole");
        sweep("measure", BODY);
        sweep("checksum");
        sweep("wholeShare");
        sweep("meanMeasure");
        sweep("isSound");
    }

    private void sweepRobotsAndBodies() {
        sweep("die", ROBOT, IS);
        sweep("standIn", ROBOT, ROBOT);
        sweep("standIn", ROBOT, new Object[] {-2});
        sweep("wear", ROBOT);
        sweep("dress", ROBOT);
        sweep("change", ROBOT);
        sweep("made", ROBOT);
        sweep("offset", STATION, new Object[] {LEAST, -100, -99, 0, 99, 100, MOST});
        sweep("feedBack", STATION, new Object[] {LEAST, -1, 0, 1, 2, 9, 10, MOST});
    }

    private static Object[] places() {
        List<Object> result = new ArrayList<>(List.of(LEAST, -100, MOST));
        for (int place = -12; place < 140; place++) {
            result.add(place);
        }
        return result.toArray();
    }

    /** Calls with each choice of one value out of each row. */
    private void sweep(String name, Object[]... rows) {
        Object[] call = new Object[rows.length + 1];
        call[0] = name;
        choose(call, rows, 0);
    }

    private void choose(Object[] call, Object[][] rows, int at) {
        if (at == rows.length) {
            hold(call.clone());
            return;
        }
        for (Object value : rows[at]) {
            call[at + 1] = value;
            choose(call, rows, at + 1);
        }
    }

    private void hold(Object[] call) {
        String told = told(call);
        Object want = answer(modelMethods, model, call);
        Object got = answer(realMethods, real, call);
        check.same(told, want, got);
        if (want.toString().startsWith("throws ")) {
            refusals++;
            refused++;
            lastRefused = told;
            if (refused >= AT_ONCE) {
                lookForChange();
            }
            return;
        }
        // The probe asks for the calls refused till now, too, as they are on the same object.
        check.same(told + " and what it left", probe(modelMethods, model), probe(realMethods, real));
        startAnew();
    }

    private void lookForChange() {
        check.same("nothing changed by the refused ones up to " + lastRefused, dueProbe, probe(realMethods, real));
        startAnew();
    }

    private void startAnew() {
        real = buildReal();
        model = buildModel();
        refused = 0;
    }

    private String told(Object[] call) {
        StringBuilder told = new StringBuilder(state);
        for (Object part : call) {
            told.append(' ').append(part instanceof Character ? "'" + (int) (char) part : part);
        }
        return told.toString();
    }

    // ---- what stands in an object, told by its answers; it is of no use afterwards

    private static String probe(Map<String, Method> methods, Object target) {
        StringBuilder seen = new StringBuilder();
        for (String name : new String[] {"checksum", "whole", "beats", "waiting", "isSound", "wholeShare", "meanMeasure"}) {
            look(seen, methods, target, name);
        }
        for (int variant = 0; variant < 4; variant++) {
            look(seen, methods, target, "spots", variant);
            look(seen, methods, target, "isHeld", variant);
            look(seen, methods, target, "uncovered", variant);
        }
        for (int station = 0; station < 4; station++) {
            look(seen, methods, target, "at", station);
            look(seen, methods, target, "proof", station, station);
            look(seen, methods, target, "states", station, 3 - station);
            look(seen, methods, target, "offset", station, 0);
            look(seen, methods, target, "stand", station, false);
            for (char letter : "sebw".toCharArray()) {
                look(seen, methods, target, "letters", station, letter);
            }
        }
        for (int robot = 0; robot < 12; robot++) {
            look(seen, methods, target, "wear", robot);
            look(seen, methods, target, "made", robot);
            look(seen, methods, target, "current", robot, 12);
            look(seen, methods, target, "change", robot);
            look(seen, methods, target, "die", robot, false);
            look(seen, methods, target, "standIn", robot, -1);
            look(seen, methods, target, "reaches", robot, 55);
            for (int variant = 0; variant < 4; variant++) {
                look(seen, methods, target, "erase", robot, variant);
            }
        }
        for (int body = 0; body < 6; body++) {
            look(seen, methods, target, "firstLacking", body);
            look(seen, methods, target, "maker", body, 0);
        }
        look(seen, methods, target, "panel", 0);
        look(seen, methods, target, "spot", 0, 1, 0, 1, 1, true);
        look(seen, methods, target, "station");
        look(seen, methods, target, "order", 0);
        for (int station = 0; station < 4; station++) {
            look(seen, methods, target, "robot", station, 55, 1);
        }
        return seen.toString();
    }

    private static void look(StringBuilder seen, Map<String, Method> methods, Object target, Object... call) {
        seen.append(call[0]).append('=').append(answer(methods, target, call)).append(' ');
    }
}
