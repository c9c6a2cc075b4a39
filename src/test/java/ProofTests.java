import java.util.Random;

/** Proofs and states of many small programs full of zones and short ways, held against the model's. */
public final class ProofTests {
    private static final int RUNS = 6000;

    public static void main(String[] args) {
        Check check = new Check("ProofTests");
        int[] letters = new int[128];
        for (int run = 0; run < RUNS; run++) {
            Random random = new Random(1000003L * run);
            Spotbeat real = new Spotbeat();
            Model model = new Model();
            build(real, model, random);
            String told = "proof run " + run;
            check.due(told, model.proof(0, 1), () -> real.proof(0, 1));
            check.due(told + " states", model.states(0, 1), () -> real.states(0, 1));
            check.due(told + " once more", model.proof(0, 1), () -> real.proof(0, 1));
            letters[model.proof(0, 1)]++;
        }
        for (char letter : "mdzp".toCharArray()) {
            check.same("often enough " + letter, true, letters[letter] > RUNS / 50);
        }
        check.close();
    }

    private static void build(Spotbeat real, Model model, Random random) {
        real.station();
        model.station();
        int crew = 1 + random.nextInt(3);
        int moves = random.nextInt(6);
        int longest = 2 + random.nextInt(crew == 3 ? 5 : 11);
        for (int robot = 0; robot < crew; robot++) {
            int base = 40 * robot + random.nextInt(8);
            real.robot(0, base, 12);
            model.robot(0, base, 12);
        }
        for (int robot = 0; robot < crew; robot++) {
            int steps = random.nextInt(longest + 1);
            for (int i = 0; i < steps; i++) {
                boolean move = random.nextInt(8) < moves;
                char kind = move ? 'm' : random.nextInt(5) < 2 ? 'c' : 'f';
                // Each keeps to its own side most of the time, for else all programs meet.
                int x = random.nextInt(4) == 0 ? random.nextInt(12) : 4 * robot + random.nextInt(4);
                int number = move ? 10 * x + random.nextInt(8) : random.nextInt(1 + random.nextInt(4));
                real.step(robot, 1, kind, number);
                model.step(robot, 1, kind, number);
            }
        }
    }
}
