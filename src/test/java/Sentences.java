import java.util.ArrayList;
import java.util.List;
import java.util.function.Consumer;

/** Sentences of the document, or parts of them, word by word; and for each of them a test of its own. */
final class Sentences {
    private final List<String> quotes = new ArrayList<>();
    private final List<Consumer<Checks>> tests = new ArrayList<>();

    void says(String quote, Consumer<Checks> test) {
        quotes.add(quote);
        tests.add(test);
    }

    List<String> quotes() {
        return quotes;
    }

    /** Runs the tests, or with an argument those whose quote begins with it, and ends the program: 1 if a sentence does not hold. */
    void run(String name, String[] args) {
        int run = 0;
        int broken = 0;
        int looked = 0;
        for (int k = 0; k < quotes.size(); k++) {
            if (args.length == 0 || quotes.get(k).startsWith(args[0])) {
                Checks checks = new Checks();
                run++;
                if (!holds(tests.get(k), checks)) {
                    broken++;
                    System.out.println("does not hold: " + quotes.get(k));
                }
                looked += checks.looked();
            }
        }
        System.out.println(name + ": " + run + " sentences, " + looked + " answers, " + broken + " do not hold");
        if (run == 0 || broken > 0) {
            System.exit(1);
        }
    }

    /** An exception breaks only the sentence that is looked at, so that the others are looked at too. */
    private static boolean holds(Consumer<Checks> test, Checks checks) {
        try {
            test.accept(checks);
        } catch (RuntimeException e) {
            System.out.println("a call ended in " + e);
            return false;
        }
        return checks.hold();
    }
}
