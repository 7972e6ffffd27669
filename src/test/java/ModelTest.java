import java.util.Random;

/** Compares the program with the model over many texts; the seeds are fixed, so that each run is the same. */
public final class ModelTest {
    private static final Checks checks = new Checks();
    private static final int[] faults = new int[5];
    private static final int[] outcomes = new int[6];

    public static void main(String[] args) {
        int rounds = args.length > 0 ? Integer.parseInt(args[0]) : 400;
        int first = args.length > 1 ? Integer.parseInt(args[1]) : 0;
        for (int seed = first; seed < first + rounds; seed++) {
            compare(seed);
        }
        System.out.println("loads by fault: " + java.util.Arrays.toString(faults) + ", runs by outcome: "
            + java.util.Arrays.toString(outcomes));
        for (int k = 0; k < 5; k++) {
            checks.due("kinds of faults met " + k, faults[k] > 0 || k == 1, true);
        }
        checks.finish("ModelTest");
    }

    private static void compare(int seed) {
        Generator generator = new Generator(seed);
        Random random = new Random(seed);
        ObjectMachine x = new ObjectMachine();
        Model model = new Model();
        for (int k = 0; k < 11; k++) {
            String text = textOf(generator, k);
            compareText(x, model, text, "seed " + seed + " text " + k);
            compareRuns(x, model, random, "seed " + seed + " text " + k);
        }
    }

    static String textOf(Generator generator, int k) {
        switch (k) {
            case 0: return generator.program(false);
            case 1: return generator.program(true);
            case 2: return generator.spoiled(generator.program(true));
            case 3: return generator.renamed(generator.program(false));
            case 4: return generator.spoiled(generator.soup());
            case 5: return generator.renamed(generator.soup());
            case 6: return generator.soup();
            default: return generator.mixture();
        }
    }

    private static void compareText(ObjectMachine x, Model model, String text, String where) {
        Checks.give(x, text);
        model.give(text);
        int fault = x.load();
        faults[fault]++;
        checks.due(where + " load", fault, model.load());
        checks.due(where + " faultAt", x.faultAt(), model.faultAt());
        for (int what = -1; what <= 6; what++) {
            checks.due(where + " size " + what, x.size(what), model.size(what));
        }
        for (int i = -1; i <= model.size(0); i++) {
            checks.due(where + " height " + i, x.height(i), model.height(i));
        }
    }

    private static void compareRuns(ObjectMachine x, Model model, Random random, String where) {
        int[] fuels = {20000, random.nextInt(60), -1, 20001, 0, random.nextInt(400)};
        for (int fuel : fuels) {
            for (int k = random.nextInt(4); k > 0; k--) {
                int v = random.nextInt(5) - 1;
                checks.due(where + " input", x.input(v), model.input(v));
            }
            int outcome = x.run(fuel);
            outcomes[outcome + 1]++;
            checks.due(where + " run " + fuel, outcome, model.run(fuel));
            checks.due(where + " steps", x.steps(), model.steps());
            checks.due(where + " place", x.place(), model.place());
            checks.due(where + " thrown", x.thrown(), model.thrown());
            checks.due(where + " made(0)", x.made(0), model.made(0));
            checks.due(where + " made(1)", x.made(1), model.made(1));
            checks.due(where + " written", x.written(), model.written());
            for (int k = -1; k <= Math.min(300, model.written() + 1); k++) {
                checks.due(where + " out " + k, x.out(k), model.out(k));
            }
            checks.due(where + " strays", x.strays(), 0);
        }
    }
}
