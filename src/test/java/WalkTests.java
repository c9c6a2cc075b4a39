import java.util.ArrayList;
import java.util.List;
import java.util.Random;

/** Long runs of calls with good and bad arguments, each answer held against the model's. */
public final class WalkTests {
    private static final int RUNS = 1500;
    private static final int CALLS = 512;

    private final Random random;
    private final int run;
    private Spotbeat real;
    private Model model;
    private String told;

    private static int wrongRuns;

    private WalkTests(int run) {
        this.run = run;
        random = new Random(run);
    }

    public static void main(String[] args) {
        long answers = 0;
        for (int run = 0; run < RUNS && wrongRuns < 5; run++) {
            answers += new WalkTests(run).walk();
        }
        System.out.println("WalkTests: " + answers + " passed, " + wrongRuns + " failed");
        if (wrongRuns > 0) {
            System.exit(1);
        }
    }

    private int walk() {
        real = new Spotbeat();
        model = new Model();
        boolean rich = run % 2 == 1;
        int called = rich ? buildRich() : 0;
        int build = random.nextInt(4);
        for (; called >= 0 && called < CALLS; called++) {
            boolean building = !rich && called < 60 && random.nextInt(5) > build;
            int kind = building ? new int[] {0, 1, 1, 5, 6, 10, 10, 17, 18}[random.nextInt(9)] : pick();
            if (!isSame(calls(kind))) {
                return called;
            }
        }
        return CALLS;
    }

    private boolean isSame(Check.Call[] pair) {
        String got = Check.answerOf(pair[0]);
        String want = Check.answerOf(pair[1]);
        if (!got.equals(want)) {
            System.out.println("run " + run + " " + told + ": got " + got + ", due is " + want);
            wrongRuns++;
            return false;
        }
        return true;
    }

    /** A line on which most spots are made, for what chance alone seldom builds; -1 if an answer was wrong. */
    private int buildRich() {
        List<Check.Call[]> calls = new ArrayList<>();
        int panels = 2 + random.nextInt(3);
        for (int i = 0; i < panels; i++) {
            calls.add(pair("panel", () -> real.panel(0), () -> model.panel(0)));
        }
        int spots = 4 + random.nextInt(16);
        for (int i = 0; i < spots; i++) {
            int child = 1 + random.nextInt(panels - 1);
            int place = 10 * random.nextInt(12) + random.nextInt(8);
            int variants = 1 + random.nextInt(15);
            int need = 1 + random.nextInt(9);
            boolean holds = random.nextInt(3) == 0;
            calls.add(pair("spot", () -> real.spot(child, 0, place, variants, need, holds),
                    () -> model.spot(child, 0, place, variants, need, holds)));
        }
        int stations = 1 + random.nextInt(4);
        for (int i = 0; i < stations; i++) {
            calls.add(pair("station", () -> real.station(), () -> model.station()));
        }
        for (int i = 0; i < 3 * stations; i++) {
            int station = i % stations;
            int base = 10 * random.nextInt(12) + random.nextInt(8);
            int reach = 4 + random.nextInt(9);
            calls.add(pair("robot", () -> real.robot(station, base, reach), () -> model.robot(station, base, reach)));
        }
        for (int i = 0; i < 4; i++) {
            int variant = i;
            calls.add(pair("deal", () -> real.deal(variant), () -> model.deal(variant)));
            calls.add(pair("order", () -> real.order(variant), () -> model.order(variant)));
        }
        for (Check.Call[] pair : calls) {
            if (!isSame(pair)) {
                return -1;
            }
        }
        return calls.size();
    }

    /** Beats, welds and orders come more often than the rest, so that bodies come off the line. */
    private int pick() {
        int chance = random.nextInt(10);
        if (chance < 2) {
            return 19;
        }
        if (chance < 4) {
            return new int[] {10, 10, 10, 14, 15, 17, 18, 18, 36}[random.nextInt(9)];
        }
        return random.nextInt(45);
    }

    /** Mostly a number from 0 on below a bound, now and then one at its edges or far off. */
    private int number(int bound) {
        int chance = random.nextInt(40);
        if (chance == 0) {
            return -1;
        }
        if (chance == 1) {
            return bound;
        }
        if (chance == 2) {
            return new int[] {Integer.MIN_VALUE, Integer.MAX_VALUE, -2, 31, 32, 64, 1000}[random.nextInt(7)];
        }
        return bound <= 0 ? 0 : random.nextInt(bound);
    }

    private int place() {
        return random.nextInt(25) == 0 ? number(130) : 10 * random.nextInt(12) + random.nextInt(8);
    }

    private char letter(String usual) {
        return random.nextInt(25) == 0 ? (char) random.nextInt(300) : usual.charAt(random.nextInt(usual.length()));
    }

    private int stepNumber(char kind, int robot) {
        if (kind == 'w') {
            return number(model.spots.size());
        }
        if (kind != 'm') {
            return number(4);
        }
        if (!model.spots.isEmpty() && random.nextInt(2) == 0) {
            Model.Spot s = model.spots.get(random.nextInt(model.spots.size()));
            return 10 * s.x() + s.y();
        }
        if (0 <= robot && robot < model.robots.size() && random.nextInt(2) == 0) {
            // Short ways beside the base, so that some programs do not meet.
            return 10 * Math.min(11, model.robots.get(robot).x + random.nextInt(2)) + model.robots.get(robot).y;
        }
        return place();
    }

    private Check.Call[] pair(String told, Check.Call one, Check.Call other) {
        this.told = told;
        return new Check.Call[] {one, other};
    }

    private Check.Call[] calls(int kind) {
        int v = number(4);
        int s = number(model.stations.size());
        int r = number(model.robots.size());
        int b = number(model.bodies.size());
        int p = number(model.spots.size());
        boolean is = random.nextBoolean();
        String args = " v" + v + " s" + s + " r" + r + " b" + b + " p" + p + " " + is;
        switch (kind) {
            case 0: { int a = number(model.parents.size()); return pair("panel " + a, () -> real.panel(a), () -> model.panel(a)); }
            case 1: {
                int one = number(model.parents.size());
                boolean up = 0 <= one && one < model.parents.size() && random.nextInt(4) > 0;
                int other = up ? model.parents.get(one) : number(model.parents.size());
                int place = place();
                int variants = random.nextInt(20) == 0 ? number(17) : 1 + random.nextInt(15);
                int need = random.nextInt(20) == 0 ? number(11) : 1 + random.nextInt(9);
                return pair("spot " + one + " " + other + " " + place + " " + variants + " " + need + " " + is,
                        () -> real.spot(one, other, place, variants, need, is),
                        () -> model.spot(one, other, place, variants, need, is));
            }
            case 2: return pair("spots" + args, () -> real.spots(v), () -> model.spots(v));
            case 3: return pair("isHeld" + args, () -> real.isHeld(v), () -> model.isHeld(v));
            case 4:
            case 5: return pair("station", () -> real.station(), () -> model.station());
            case 6: {
                int base = place();
                int reach = random.nextInt(20) == 0 ? number(14) : 1 + random.nextInt(12);
                return pair("robot " + s + " " + base + " " + reach,
                        () -> real.robot(s, base, reach), () -> model.robot(s, base, reach));
            }
            case 7: { int a = place(); return pair("reaches" + args + " " + a, () -> real.reaches(r, a), () -> model.reaches(r, a)); }
            case 8: { int a = place(); int c = place(); return pair("swept " + a + " " + c, () -> real.swept(a, c), () -> model.swept(a, c)); }
            case 9: {
                int a = random.nextInt(10) == 0 ? number(32) : 1 + random.nextInt(30);
                return pair("current" + args + " " + a, () -> real.current(r, a), () -> model.current(r, a));
            }
            case 10: {
                char k = letter("mmmwwwwcf");
                int n = stepNumber(k, r);
                return pair("step" + args + " " + k + " " + n, () -> real.step(r, v, k, n), () -> model.step(r, v, k, n));
            }
            case 11: return random.nextInt(4) > 0 ? calls(10) : pair("erase" + args, () -> real.erase(r, v), () -> model.erase(r, v));
            case 12: return pair("steps" + args, () -> real.steps(r, v), () -> model.steps(r, v));
            case 13: return pair("welds" + args, () -> real.welds(r, v), () -> model.welds(r, v));
            case 14: return pair("proof" + args, () -> real.proof(s, v), () -> model.proof(s, v));
            case 15: return pair("states" + args, () -> real.states(s, v), () -> model.states(s, v));
            case 16: return pair("uncovered" + args, () -> real.uncovered(v), () -> model.uncovered(v));
            case 17: return pair("deal" + args, () -> real.deal(v), () -> model.deal(v));
            case 18: return pair("order" + args, () -> real.order(v), () -> model.order(v));
            case 19: return pair("beat", () -> real.beat(), () -> model.beat());
            case 20: return pair("beats", () -> real.beats(), () -> model.beats());
            case 21: return pair("at" + args, () -> real.at(s), () -> model.at(s));
            case 22: return pair("where" + args, () -> real.where(b), () -> model.where(b));
            case 23: return pair("waiting", () -> real.waiting(), () -> model.waiting());
            case 24: { boolean seldom = random.nextInt(4) == 0; return pair("stand" + args + seldom, () -> real.stand(s, seldom), () -> model.stand(s, seldom)); }
            case 25: { char k = letter("sebw"); return pair("letters" + args + k, () -> real.letters(s, k), () -> model.letters(s, k)); }
            case 26: { boolean seldom = random.nextInt(4) == 0; return pair("die" + args + seldom, () -> real.die(r, seldom), () -> model.die(r, seldom)); }
            case 27: {
                int other = random.nextInt(6) == 0 ? -1 : number(model.robots.size());
                return pair("standIn" + args + " " + other, () -> real.standIn(r, other), () -> model.standIn(r, other));
            }
            case 28: return pair("wear" + args, () -> real.wear(r), () -> model.wear(r));
            case 29: return pair("dress" + args, () -> real.dress(r), () -> model.dress(r));
            case 30: return pair("change" + args, () -> real.change(r), () -> model.change(r));
            case 31: return pair("made" + args, () -> real.made(r), () -> model.made(r));
            case 32: return pair("lacks" + args, () -> real.lacks(b), () -> model.lacks(b));
            case 33: return pair("isLacking" + args, () -> real.isLacking(b, p), () -> model.isLacking(b, p));
            case 34: return pair("firstLacking" + args, () -> real.firstLacking(b), () -> model.firstLacking(b));
            case 35: return pair("mend" + args, () -> real.mend(b, p), () -> model.mend(b, p));
            case 36: return pair("maker" + args, () -> real.maker(b, p), () -> model.maker(b, p));
            case 37: return pair("whole", () -> real.whole(), () -> model.whole());
            case 38: { int a = random.nextInt(220) - 110; return pair("offset" + args + " " + a, () -> real.offset(s, a), () -> model.offset(s, a)); }
            case 39: return pair("measure" + args, () -> real.measure(b), () -> model.measure(b));
            case 40: { int a = number(10); return pair("feedBack" + args + " " + a, () -> real.feedBack(s, a), () -> model.feedBack(s, a)); }
            case 41: return pair("checksum", () -> real.checksum(), () -> model.checksum());
            case 42: return pair("wholeShare", () -> real.wholeShare(), () -> model.wholeShare());
            case 43: return pair("meanMeasure", () -> real.meanMeasure(), () -> model.meanMeasure());
            default: return pair("isSound", () -> real.isSound(), () -> model.isSound());
        }
    }
}
