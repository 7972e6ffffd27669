import java.util.Random;

/** All calls in any order and with any arguments, compared with the model: none may ever end in an exception. */
public final class CallsTest {
    private static final Checks checks = new Checks();
    private static final int[] ODD = {0, 1, -1, 2, 3, 4, 5, 6, 7, 19, 20, 21, 255, 256, 257, 1000, 19999, 20000, 20001, 16000,
        Integer.MAX_VALUE, Integer.MIN_VALUE};

    public static void main(String[] args) {
        int rounds = args.length > 0 ? Integer.parseInt(args[0]) : 300;
        for (int seed = 0; seed < rounds; seed++) {
            compare(seed);
        }
        checks.finish("CallsTest");
    }

    private static void compare(int seed) {
        Random random = new Random(seed);
        Generator generator = new Generator(seed + 1000000L);
        ObjectMachine x = new ObjectMachine();
        Model model = new Model();
        for (int n = 0; n < 60; n++) {
            String where = "seed " + seed + " call " + n;
            if (random.nextInt(5) == 0) {
                String text = textOf(random, generator);
                feed(x, model, text, where);
                int end = random.nextInt(8) == 0 ? random.nextInt(text.length() + 40) : text.length();
                checks.due(where + " end", x.end(end), model.end(end));
            }
            call(x, model, random, where);
        }
    }

    /** Right texts, texts with any bytes, and texts with one byte changed. */
    private static String textOf(Random random, Generator generator) {
        String text = ModelTest.textOf(generator, random.nextInt(9));
        StringBuilder all = new StringBuilder(text);
        switch (random.nextInt(5)) {
            case 0:
                all.setLength(random.nextInt(60));
                for (int k = 0; k < all.length(); k++) {
                    all.setCharAt(k, (char) random.nextInt(256));
                }
                break;
            case 1:
                if (all.length() > 0) {
                    all.setCharAt(random.nextInt(all.length()), (char) random.nextInt(256));
                }
                break;
            default: break;
        }
        return all.toString();
    }

    private static void feed(ObjectMachine x, Model model, String text, String where) {
        for (int i = 0; i < text.length(); i += 20) {
            int[] w = new int[5];
            for (int k = 0; k < 20; k++) {
                w[k / 4] = w[k / 4] << 8 | (i + k < text.length() ? text.charAt(i + k) & 255 : 0);
            }
            checks.due(where + " feed", x.feed(w[0], w[1], w[2], w[3], w[4]), model.feed(w));
        }
    }

    private static void call(ObjectMachine x, Model model, Random random, String where) {
        int v = random.nextBoolean() ? ODD[random.nextInt(ODD.length)] : random.nextInt(300);
        switch (random.nextInt(16)) {
            case 0: checks.due(where + " feed", x.feed(v, v, v, v, v), model.feed(v, v, v, v, v)); break;
            case 1: checks.due(where + " end", x.end(v), model.end(v)); break;
            case 2: case 3: checks.due(where + " load", x.load(), model.load()); break;
            case 4: checks.due(where + " faultAt", x.faultAt(), model.faultAt()); break;
            case 5: checks.due(where + " size", x.size(v), model.size(v)); break;
            case 6: checks.due(where + " height", x.height(v), model.height(v)); break;
            case 7: checks.due(where + " input", x.input(v), model.input(v)); break;
            case 8: checks.due(where + " run", x.run(v), model.run(v)); break;
            case 9: checks.due(where + " steps", x.steps(), model.steps()); break;
            case 10: checks.due(where + " place", x.place(), model.place()); break;
            case 11: checks.due(where + " thrown", x.thrown(), model.thrown()); break;
            case 12: checks.due(where + " made", x.made(v), model.made(v)); break;
            case 13: checks.due(where + " written", x.written(), model.written()); break;
            case 14: checks.due(where + " out", x.out(v), model.out(v)); break;
            default: checks.due(where + " strays", x.strays(), 0); break;
        }
    }
}
