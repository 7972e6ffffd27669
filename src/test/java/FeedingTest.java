/** Promises 1, 2, 3 and 8: a new object, feed, end and input; and that texts are used up. */
public final class FeedingTest {
    private static final Checks checks = new Checks();
    private static final String EMPTY_MAIN = Checks.main(0, "back");

    public static void main(String[] args) {
        newObject();
        feedsUpToAnEnd();
        feedsInAll();
        feedsBytesInOrder();
        ends();
        usesTextsUp();
        takesWholeTexts();
        takesInput();
        checks.finish("FeedingTest");
    }

    private static void newObject() {
        ObjectMachine x = new ObjectMachine();
        checks.due("faultAt", x.faultAt(), -1);
        for (int what = -1; what <= 6; what++) {
            checks.due("size", x.size(what), -1);
        }
        checks.due("height", x.height(0), -1);
        checks.due("run", x.run(10), -1);
        checks.due("steps", x.steps(), 0);
        checks.due("place", x.place(), -1);
        checks.due("thrown", x.thrown(), -1);
        checks.due("made(0)", x.made(0), 0);
        checks.due("made(1)", x.made(1), 0);
        checks.due("made(2)", x.made(2), -1);
        checks.due("made(-1)", x.made(-1), -1);
        checks.due("written", x.written(), 0);
        checks.due("out", x.out(0), 0);
        checks.due("strays", x.strays(), 0);
        // A load without a text is one of an empty text, which has no class Main.
        checks.due("load", x.load(), 3);
        checks.due("faultAt", x.faultAt(), 0);
    }

    private static void feedsUpToAnEnd() {
        ObjectMachine x = new ObjectMachine();
        for (int n = 1; n <= 800; n++) {
            checks.due("feed", x.feed(0, 0, 0, 0, 0), 20 * n);
        }
        checks.due("feed 801", x.feed(0, 0, 0, 0, 0), -1);
        checks.due("end", x.end(16001), false);
        checks.due("end", x.end(16000), true);
        checks.due("feed behind end", x.feed(0, 0, 0, 0, 0), 20);
    }

    private static void feedsInAll() {
        ObjectMachine x = new ObjectMachine();
        for (int n = 0; n < 3276; n++) {
            if (n % 700 == 0) {
                x.end(0);
            }
            checks.due("feed", x.feed(0, 0, 0, 0, 0), 20 * (n % 700 + 1));
        }
        checks.due("end", x.end(5), true);
        checks.due("feed of more than 65536", x.feed(0, 0, 0, 0, 0), -1);
        checks.due("end", x.end(1), false);
        checks.due("end", x.end(0), true);
        checks.due("feed", x.feed(0, 0, 0, 0, 0), -1);
    }

    private static void feedsBytesInOrder() {
        ObjectMachine x = new ObjectMachine();
        // "( ( ( ( ( " ... with the bad byte at each of the twenty places: the tokens before it tell the place.
        for (int at = 0; at < 20; at++) {
            int[] words = new int[5];
            for (int k = 0; k < 20; k++) {
                words[k / 4] |= (k == at ? 200 : '(') << (24 - 8 * (k % 4));
            }
            x.feed(words[0], words[1], words[2], words[3], words[4]);
            x.end(20);
            checks.due("load", x.load(), 1);
            checks.due("faultAt", x.faultAt(), at);
        }
    }

    private static void ends() {
        ObjectMachine x = new ObjectMachine();
        checks.due("end(-1)", x.end(-1), false);
        checks.due("end(1)", x.end(1), false);
        checks.due("end(0)", x.end(0), true);
        x.feed(0x28282828, 0, 0, 0, 0);
        checks.due("end(21)", x.end(21), false);
        checks.due("end(-5)", x.end(-5), false);
        checks.due("feed", x.feed(0, 0, 0, 0, 0), 40);
        checks.due("end(0)", x.end(0), true);
        checks.due("load", x.load(), 3);
        checks.due("faultAt", x.faultAt(), 0);
        checks.due("others are gone", x.end(1), false);
        Checks.give(x, EMPTY_MAIN + "  }");
        x.feed(0, 0, 0, 0, 0);
        checks.due("a refused end", x.end(100), false);
        checks.due("load with bytes fed behind end", x.load(), 2);
        checks.due("feed goes on", x.feed(0, 0, 0, 0, 0), 40);
        // A later end takes the place of an earlier one.
        Checks.give(x, "");
        Checks.give(x, "} }");
        Checks.give(x, EMPTY_MAIN);
        checks.due("load", x.load(), 0);
    }

    private static void usesTextsUp() {
        ObjectMachine x = new ObjectMachine();
        Checks.give(x, EMPTY_MAIN);
        checks.due("load", x.load(), 0);
        checks.due("faultAt", x.faultAt(), -1);
        checks.due("second load", x.load(), 3);
        checks.due("faultAt", x.faultAt(), 0);
        checks.due("the program stays", x.size(0), 1);
        Checks.give(x, "class Main");
        checks.due("load", x.load(), 2);
        checks.due("faultAt", x.faultAt(), 2);
        checks.due("second load", x.load(), 3);
        checks.due("the program stays", x.run(5), 0);
    }

    private static void takesWholeTexts() {
        // All bytes that may be fed count, up to the last one.
        ObjectMachine x = new ObjectMachine();
        Checks.give(x, " ".repeat(16000 - EMPTY_MAIN.length()) + EMPTY_MAIN);
        checks.due("load", x.load(), 0);
        Checks.give(x, EMPTY_MAIN + " ".repeat(15999 - EMPTY_MAIN.length()) + "}");
        checks.due("load", x.load(), 2);
        checks.due("faultAt", x.faultAt(), Checks.tokensOf(EMPTY_MAIN));
        Checks.give(x, "(".repeat(15999) + "\u0000");
        checks.due("load", x.load(), 1);
        checks.due("faultAt", x.faultAt(), 15999);
        Checks.give(x, "class Main of Object{static main()none 0{a:" + "b:".repeat(7970) + "}}");
        checks.due("load", x.load(), 3);
        checks.due("faultAt", x.faultAt(), 16);
    }

    private static void takesInput() {
        String copy = Checks.main(1, "push 0 store 0  a : read write  inc 0 1  load 0 push 258 lt a  back");
        ObjectMachine x = Checks.loaded(copy);
        for (int k = 0; k < 256; k++) {
            checks.due("input", x.input(k * 7 - 100), true);
        }
        checks.due("input 257", x.input(5), false);
        checks.due("run", x.run(-1), -1);
        checks.due("a refused run leaves the input", x.input(5), false);
        checks.due("run", x.run(20000), 0);
        checks.due("written", x.written(), 258);
        for (int k = 0; k < 256; k++) {
            checks.due("out", x.out(k), k * 7 - 100);
        }
        checks.due("out(256)", x.out(256), 0);
        checks.due("the input is used up", x.input(77), true);
        checks.due("run", x.run(20000), 0);
        checks.due("out(0)", x.out(0), 77);
        checks.due("out(1)", x.out(1), 0);
        // What a run has not read is used up too.
        x.input(1);
        x.input(2);
        checks.due("run", x.run(0), 2);
        checks.due("run", x.run(20000), 0);
        checks.due("out(0)", x.out(0), 0);
        // Loading, right or wrong, leaves the input.
        x.input(9);
        Checks.give(x, "}");
        checks.due("load", x.load(), 2);
        Checks.give(x, copy);
        checks.due("load", x.load(), 0);
        checks.due("run", x.run(20000), 0);
        checks.due("out(0)", x.out(0), 9);
    }
}
