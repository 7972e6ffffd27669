/** The sentences of the promises 1 to 16, each with its boundaries. */
public final class CallsSentencesTest {
    private static final int LEAST = Integer.MIN_VALUE;
    private static final int MOST = Integer.MAX_VALUE;
    private static final String MAIN = Checks.main(0, "back");

    public static void main(String[] args) {
        Sentences sentences = new Sentences();
        all(sentences);
        sentences.run("CallsSentencesTest", args);
    }

    static void all(Sentences s) {
        s.says("No text, no program, never run.", CallsSentencesTest::newObject);
        s.says("Feeds twenty bytes, the highest of a first, then b, c, d, e:", CallsSentencesTest::orderOfBytes);
        s.says("how many were fed since the last end();", CallsSentencesTest::fedSinceEnd);
        s.says("-1 if there would be more than 16000,", CallsSentencesTest::mostBytes);
        s.says("or more than 65536 in all.", CallsSentencesTest::mostBytesInAll);
        s.says("The first n of the bytes fed since become the text, the others are gone;", CallsSentencesTest::firstBytes);
        s.says("false if n is below 0 or more than were fed.", CallsSentencesTest::wrongEnds);
        s.says("Loads the text, which is used up:", CallsSentencesTest::textsUsedUp);
        s.says("0, and it is the program from now on;", CallsSentencesTest::newProgram);
        s.says("or the fault 1 .. 4 (the program stays as it was).", CallsSentencesTest::programStays);
        s.says("The token of the latest loading's fault", CallsSentencesTest::latestFault);
        s.says("(of fault 1 the number of tokens before the byte, a word right before it being one);", CallsSentencesTest::tokensBeforeTheByte);
        s.says("-1 if it had none or there was none.", CallsSentencesTest::noFault);
        s.says("How many instructions (0), sites (1), bodies (2), fields (3), classes beside the known ones (4), catches (5) the program has;",
            CallsSentencesTest::sizes);
        s.says("-1 if there is none, or for another number.", CallsSentencesTest::noSizes);
        s.says("The height of the stack where instruction i begins;", CallsSentencesTest::heights);
        s.says("-1 if no height comes to it, or there is none.", CallsSentencesTest::noHeights);
        s.says("Puts an int behind the input;", CallsSentencesTest::inputInOrder);
        s.says("false if it has 256.", CallsSentencesTest::mostInput);
        s.says("Runs the program with the input, which is used up,", CallsSentencesTest::inputUsedUp);
        s.says("and this fuel 0 .. 20000: the outcome;", CallsSentencesTest::fuels);
        s.says("-1 if there is no program or the fuel is another number.", CallsSentencesTest::refusedRuns);
        ofTheLatestRun(s);
    }

    private static void ofTheLatestRun(Sentences s) {
        s.says("The steps of the latest run;", c -> {
            ObjectMachine x = Checks.loaded(Checks.main(0, "push 1 pop back"));
            int[] fuels = {20000, 2, 0, 3};
            int[] due = {3, 2, 0, 3};
            for (int k = 0; k < 4; k++) {
                x.run(fuels[k]);
                c.due("steps", x.steps(), due[k]);
                c.due("steps once more", x.steps(), due[k]);
            }
            // Not of a run that was refused; and a loading is no run.
            x.run(-1);
            Checks.give(x, MAIN);
            x.load();
            c.due("steps", x.steps(), 3);
        });
        s.says("0 if there was none.", c -> {
            ObjectMachine x = new ObjectMachine();
            c.due("steps", x.steps(), 0);
            x.run(5);
            c.due("steps without a program", x.steps(), 0);
            Checks.give(x, MAIN);
            x.load();
            c.due("steps without a run", x.steps(), 0);
            x.run(20001);
            c.due("steps of a refused run", x.steps(), 0);
        });
        s.says("Of the latest run: the instruction at which it ended", CallsSentencesTest::places);
        s.says("(outcomes 2: that would be next,", CallsSentencesTest::nextPlaces);
        s.says("1: that threw it, in the body that threw it first),", CallsSentencesTest::throwingPlaces);
        s.says("in the body that threw it first), -1 if there was none.", c -> {
            ObjectMachine x = new ObjectMachine();
            c.due("place", x.place(), -1);
            Checks.give(x, MAIN);
            x.load();
            c.due("place without a run", x.place(), -1);
            x.run(-1);
            c.due("place of a refused run", x.place(), -1);
            x.run(0);
            c.due("place of a run without fuel", x.place(), 0);
        });
        s.says("The site of the object that was thrown out of main;", CallsSentencesTest::thrownSites);
        s.says("-1 if the outcome was not 1.", CallsSentencesTest::notThrown);
        s.says("How many objects (0), fields and elements (1) it made;", CallsSentencesTest::made);
        s.says("0 if there was none, -1 for another number.", CallsSentencesTest::noneMade);
        s.says("How many ints it put out.", CallsSentencesTest::written);
        s.says("Int k of these;", CallsSentencesTest::outs);
        s.says("0 if there is none, or k is above 255.", CallsSentencesTest::noOuts);
        s.says("In how many steps of all runs an instruction met a value of a wrong kind (an int for a reference or the other way round, "
            + "an object of a class that it may not have there, an unset local, a stack of another height than told). In a right system never.",
            CallsSentencesTest::strays);
    }

    private static int word(String four) {
        return four.charAt(0) << 24 | four.charAt(1) << 16 | four.charAt(2) << 8 | four.charAt(3);
    }

    // ---- promises 1 to 3

    private static void newObject(Checks c) {
        ObjectMachine x = new ObjectMachine();
        c.due("faultAt", x.faultAt(), -1);
        for (int what = -1; what <= 6; what++) {
            c.due("size", x.size(what), -1);
        }
        c.due("height", x.height(0), -1);
        c.due("run", x.run(10), -1);
        c.due("steps", x.steps(), 0);
        c.due("place", x.place(), -1);
        c.due("thrown", x.thrown(), -1);
        c.due("made(0)", x.made(0), 0);
        c.due("made(1)", x.made(1), 0);
        c.due("written", x.written(), 0);
        c.due("out", x.out(0), 0);
        c.due("strays", x.strays(), 0);
        c.due("bytes fed", x.end(1), false);
        // No text is one without a token, which has no class Main.
        c.due("load", x.load(), 3);
        c.due("faultAt", x.faultAt(), 0);
        c.due("input has room", x.input(1), true);
        c.due("feed", x.feed(0, 0, 0, 0, 0), 20);
        // Nothing of another object is in it.
        Checks.loaded(MAIN).run(5);
        ObjectMachine y = new ObjectMachine();
        c.due("run of another", y.run(5), -1);
        c.due("steps of another", y.steps(), 0);
    }

    private static void orderOfBytes(Checks c) {
        ObjectMachine x = new ObjectMachine();
        // A wrong byte at each of the twenty places: the tokens before it tell the place.
        for (int at = 0; at < 20; at++) {
            int[] words = new int[5];
            for (int k = 0; k < 20; k++) {
                words[k / 4] |= (k == at ? 255 : '(') << (24 - 8 * (k % 4));
            }
            c.due("feed", x.feed(words[0], words[1], words[2], words[3], words[4]), 20);
            c.due("end", x.end(20), true);
            c.due("load", x.load(), 1);
            c.due("faultAt of a wrong byte at " + at, x.faultAt(), at);
        }
        // And from one call to the next.
        ObjectMachine y = new ObjectMachine();
        y.feed(word("clas"), word("s Ma"), word("in o"), word("f Ob"), word("ject"));
        y.feed(word("{sta"), word("tic "), word("main"), word("()no"), word("ne 0"));
        c.due("feed", y.feed(word("{bac"), word("k}} "), 0, 0, 0), 60);
        c.due("end", y.end(47), true);
        c.due("load", y.load(), 0);
    }

    private static void fedSinceEnd(Checks c) {
        ObjectMachine x = new ObjectMachine();
        c.due("feed", x.feed(1, 2, 3, 4, 5), 20);
        c.due("feed", x.feed(1, 2, 3, 4, 5), 40);
        x.end(41);
        c.due("feed behind an end that is refused", x.feed(1, 2, 3, 4, 5), 60);
        x.load();
        c.due("feed behind a load", x.feed(1, 2, 3, 4, 5), 80);
        x.end(5);
        c.due("feed behind an end", x.feed(1, 2, 3, 4, 5), 20);
        x.end(0);
        c.due("feed behind an end of nothing", x.feed(1, 2, 3, 4, 5), 20);
    }

    private static void mostBytes(Checks c) {
        ObjectMachine x = new ObjectMachine();
        for (int n = 1; n <= 800; n++) {
            c.due("feed " + n, x.feed(0, 0, 0, 0, 0), 20 * n);
        }
        c.due("feed 801", x.feed(0, 0, 0, 0, 0), -1);
        c.due("feed 802", x.feed(0, 0, 0, 0, 0), -1);
        c.due("end", x.end(16000), true);
        c.due("feed behind end", x.feed(0, 0, 0, 0, 0), 20);
        // All 16000 bytes count, up to the last one.
        ObjectMachine y = new ObjectMachine();
        Checks.give(y, "(".repeat(15999) + "\u0001");
        c.due("load", y.load(), 1);
        c.due("faultAt", y.faultAt(), 15999);
        Checks.give(y, " ".repeat(16000 - MAIN.length()) + MAIN);
        c.due("load", y.load(), 0);
        Checks.give(y, "class Main of Object{static main()none 0{a:" + "b:".repeat(7970) + "}}");
        c.due("load", y.load(), 3);
        c.due("faultAt", y.faultAt(), 16);
    }

    private static void mostBytesInAll(Checks c) {
        ObjectMachine x = new ObjectMachine();
        for (int n = 0; n < 3276; n++) {
            if (n % 700 == 0) {
                x.end(0);
            }
            c.due("feed", x.feed(0, 0, 0, 0, 0), 20 * (n % 700 + 1));
        }
        c.due("feed of 65540", x.feed(0, 0, 0, 0, 0), -1);
        c.due("end", x.end(0), true);
        c.due("feed of 65540", x.feed(0, 0, 0, 0, 0), -1);
        c.due("nothing was fed", x.end(1), false);
        // Refused bytes are not counted: those of a full text.
        ObjectMachine y = new ObjectMachine();
        int fed = 0;
        for (int n = 0; n < 3900; n++) {
            if (n % 900 == 0) {
                y.end(0);
            }
            fed += y.feed(0, 0, 0, 0, 0) < 0 ? 0 : 20;
        }
        c.due("bytes that were taken", fed, 65520);
    }

    private static void firstBytes(Checks c) {
        for (int n = 0; n <= 20; n++) {
            ObjectMachine y = new ObjectMachine();
            y.feed(word("abc\1"), word("abc\1"), 0, 0, 0);
            c.due("end(" + n + ")", y.end(n), true);
            // With three bytes it is one word, with four it has a wrong byte.
            c.due("load of " + n, y.load(), n == 0 ? 3 : n <= 3 ? 2 : 1);
            c.due("the others are gone", y.end(1), false);
            c.due("feed", y.feed(0, 0, 0, 0, 0), 20);
        }
        // A later end takes the place of an earlier one, also with nothing.
        ObjectMachine x = new ObjectMachine();
        Checks.give(x, MAIN);
        Checks.give(x, "}");
        c.due("load", x.load(), 2);
        Checks.give(x, "}");
        Checks.give(x, MAIN);
        c.due("load", x.load(), 0);
        Checks.give(x, "}");
        c.due("end(0)", x.end(0), true);
        c.due("load", x.load(), 3);
        // Of an earlier text nothing is left behind a shorter one.
        Checks.give(x, MAIN + " } } }");
        Checks.give(x, MAIN);
        c.due("load", x.load(), 0);
    }

    private static void wrongEnds(Checks c) {
        ObjectMachine x = new ObjectMachine();
        for (int n : new int[] {-1, 1, LEAST, MOST, -20, 20}) {
            c.due("end(" + n + ") of nothing", x.end(n), false);
        }
        c.due("end(0) of nothing", x.end(0), true);
        x.feed(word("(((("), word("(((("), word("(((("), word("(((("), word("(((("));
        for (int n : new int[] {-1, 21, 40, LEAST, MOST}) {
            c.due("end(" + n + ") of 20", x.end(n), false);
        }
        x.feed(0, 0, 0, 0, 0);
        c.due("end(41) of 40", x.end(41), false);
        c.due("end(40) of 40", x.end(40), true);
        c.due("load", x.load(), 1);
        c.due("faultAt", x.faultAt(), 20);
    }

    // ---- promises 4 and 5

    private static void textsUsedUp(Checks c) {
        String[] texts = {MAIN, "\1", "}", "class A of B { }", Checks.main(0, "pop back")};
        for (int fault = 0; fault < 5; fault++) {
            ObjectMachine x = new ObjectMachine();
            Checks.give(x, texts[fault]);
            c.due("load", x.load(), fault);
            // It is gone: there is no token any more.
            c.due("second load", x.load(), 3);
            c.due("faultAt", x.faultAt(), 0);
            c.due("third load", x.load(), 3);
        }
    }

    private static void newProgram(Checks c) {
        ObjectMachine x = Checks.loaded(Checks.main(0, "push 1 write back"));
        c.due("run", x.run(10), 0);
        c.due("out", x.out(0), 1);
        Checks.give(x, Checks.main(0, "push 2 push 3 write write back"));
        c.due("size before the load", x.size(0), 3);
        c.due("load", x.load(), 0);
        c.due("size", x.size(0), 5);
        c.due("height", x.height(2), 2);
        c.due("the latest run is the same", x.out(0), 1);
        c.due("run", x.run(10), 0);
        c.due("out", x.out(0), 3);
        // And a third and fourth one, in the rows of the first two.
        Checks.give(x, MAIN);
        c.due("load", x.load(), 0);
        c.due("size", x.size(0), 1);
        c.due("height", x.height(1), -1);
        Checks.give(x, Checks.main(0, "push 4 write back"));
        c.due("load", x.load(), 0);
        c.due("run", x.run(10), 0);
        c.due("out", x.out(0), 4);
        likeOnANewObject(c);
    }

    /** Texts of all kinds one behind the other, each of which must answer as if it were the first. */
    private static void likeOnANewObject(Checks c) {
        String guard = "a : null length pop b : back c : pop push 1 write back catch a b c Error ";
        String[] texts = {SIZED, MAIN, MAIN + " class A of Object { field a int static s ( ) none 0 { back } }",
            "class A of Object { static s ( ) none 0 {", "; } \n class A of Object { }", "class A of Object { field a No }",
            Checks.main(1, "null store 0 load 0 write back"), Checks.main(1, "push 1 load 0 pop back"),
            // The second has a field where the first has main: what the first left must not count.
            "class Main of Object { static s ( ) none 0 { back } static main ( ) none 0 { back } }",
            "class Main of Object { static s ( ) none 0 { back } field main int }",
            Checks.main(0, "call Main.s back", "static s ( ) none 0 { " + guard + "} static t ( ) none 0 { back }", ""),
            Checks.main(0, guard + "catch a b c NullError", "static s ( ) none 0 { " + guard + "} method m ( int int ) int 12 { load 1 give }", ""),
            Checks.main(0, "read read eq a new C goto b a : new D b : get A.n write back", "",
                "class A of Object { field n int } class B of A { } class C of B { } class D of A { } "),
            Checks.main(0, "read read eq a new C goto b a : new D b : get B.n write back", "",
                "class A of Object { } class B of A { field n int } class C of B { } class D of B { } "),
            Checks.main(0, "new C send A.m write new B send A.m write new Error throw", "", "class A of Object { method m ( ) int 1 { push 1 give } } "
                + "class B of A { } class C of A { method m ( ) int 1 { push 3 give } } ")};
        for (String one : texts) {
            for (String two : texts) {
                ObjectMachine x = new ObjectMachine();
                // With a right one between, so that the second comes into the rows of the first.
                for (String text : new String[] {one, MAIN, two, MAIN, two}) {
                    String got = answersTo(x, text);
                    String due = answersTo(new ObjectMachine(), text);
                    c.due(text + " behind " + one + ": " + got + ", due is " + due, got.equals(due) || x.faultAt() >= 0
                        && got.split("/")[0].equals(due.split("/")[0]), true);
                }
            }
        }
    }

    /** Its loading, and what is told of the program and of a run. */
    private static String answersTo(ObjectMachine x, String text) {
        Checks.give(x, text);
        StringBuilder all = new StringBuilder();
        all.append(x.load()).append(' ').append(x.faultAt()).append('/');
        for (int what = 0; what < 6; what++) {
            all.append(' ').append(x.size(what));
        }
        for (int i = 0; i < x.size(0); i++) {
            all.append(' ').append(x.height(i));
        }
        all.append('/').append(x.run(1000)).append(' ').append(x.steps()).append(' ').append(x.place()).append(' ').append(x.thrown());
        all.append(' ').append(x.made(0)).append(' ').append(x.made(1)).append(' ').append(x.written()).append(' ').append(x.out(0));
        return all.append(' ').append(x.out(1)).append(' ').append(x.strays()).toString();
    }

    private static void programStays(Checks c) {
        String[] wrong = {"\1", "}", "class A of B { }", Checks.main(0, "pop back")};
        for (int k = 0; k < 4; k++) {
            ObjectMachine x = new ObjectMachine();
            Checks.give(x, wrong[k]);
            c.due("load", x.load(), k + 1);
            c.due("no program", x.size(0), -1);
            c.due("no run", x.run(5), -1);
            ObjectMachine y = Checks.loaded(Checks.main(0, "push 1 write back", "field f int", ""));
            Checks.give(y, wrong[k]);
            c.due("load", y.load(), k + 1);
            c.due("size(0)", y.size(0), 3);
            c.due("size(3)", y.size(3), 1);
            c.due("height", y.height(1), 1);
            c.due("run", y.run(10), 0);
            c.due("out", y.out(0), 1);
        }
    }

    private static void latestFault(Checks c) {
        ObjectMachine x = new ObjectMachine();
        String[] texts = {"( ( \1", "class }", "class A of B { }", Checks.main(0, "pop back"), "( \1", "", MAIN, "}"};
        int[] due = {2, 1, 3, 12, 1, 0, -1, 0};
        for (int k = 0; k < texts.length; k++) {
            Checks.give(x, texts[k]);
            c.due("before the load", x.faultAt(), k == 0 ? -1 : due[k - 1]);
            x.load();
            c.due("faultAt", x.faultAt(), due[k]);
            c.due("faultAt once more", x.faultAt(), due[k]);
        }
    }

    private static void tokensBeforeTheByte(Checks c) {
        c.loads("\1", 1, 0);
        c.loads(" \1", 1, 0);
        c.loads("a\1", 1, 1);
        c.loads("a \1", 1, 1);
        c.loads("a b\1", 1, 2);
        c.loads("ab\1cd ef", 1, 1);
        c.loads("(\1", 1, 1);
        c.loads("((a\1", 1, 3);
        c.loads("a:\1", 1, 2);
        c.loads("a ;b c\1", 1, 1);
        c.loads("a;\1", 1, 1);
        c.loads(";a\nb\1", 1, 1);
        c.loads("a b c d\u00ff e f \u00fe", 1, 4);
        // Before all other faults, wherever it stands.
        c.loads("} } class class A of A { } \1", 1, 9);
        c.loads(MAIN + "\1", 1, Checks.tokensOf(MAIN));
        c.loads(MAIN + "\u007f", 1, Checks.tokensOf(MAIN));
    }

    private static void noFault(Checks c) {
        ObjectMachine x = new ObjectMachine();
        c.due("faultAt without a load", x.faultAt(), -1);
        Checks.give(x, "}");
        c.due("faultAt before the load", x.faultAt(), -1);
        x.load();
        c.due("faultAt", x.faultAt(), 0);
        Checks.give(x, MAIN);
        x.load();
        c.due("faultAt of a right text", x.faultAt(), -1);
    }

    // ---- promises 6 and 7

    private static final String SIZED = "class A of Object { field a int field b A[] method m ( ) none 1 { back } } class B of A { field c int "
        + "method m ( ) none 1 { a : push 1 array int pop b : back c : pop back catch a b c Error catch a c c NullError } } class D of B { } "
        + Checks.main(0, "new A pop new B pop back");

    private static void sizes(Checks c) {
        ObjectMachine x = Checks.loaded(SIZED);
        int[] due = {12, 3, 3, 3, 4, 2};
        for (int what = 0; what < 6; what++) {
            c.due("size(" + what + ")", x.size(what), due[what]);
        }
        Checks.give(x, MAIN);
        x.load();
        int[] then = {1, 0, 1, 0, 1, 0};
        for (int what = 0; what < 6; what++) {
            c.due("size(" + what + ")", x.size(what), then[what]);
        }
        // The most of each.
        String lines = "a : read pop b : back c : pop back " + Checks.times(64, "catch a b c Error ");
        ObjectMachine y = Checks.loaded(Checks.times(23, "class A# of Object { } ") + Checks.main(0, lines + Checks.times(48, "new Main pop ")
            + Checks.times(413, "read pop ") + "goto e e : back", Checks.times(47, "static s# ( ) none 0 { back } ")
            + Checks.times(48, "field f# int "), ""));
        int[] most = {5 + 96 + 826 + 2 + 47, 48, 48, 48, 24, 64};
        for (int what = 0; what < 6; what++) {
            c.due("size(" + what + ") of the most", y.size(what), most[what]);
        }
    }

    private static void noSizes(Checks c) {
        ObjectMachine x = new ObjectMachine();
        for (int what = -1; what <= 6; what++) {
            c.due("size(" + what + ") without a program", x.size(what), -1);
        }
        ObjectMachine y = Checks.loaded(SIZED);
        for (int what : new int[] {-1, 6, 7, -2, 100, LEAST, MOST}) {
            c.due("size(" + what + ")", y.size(what), -1);
        }
    }

    private static void heights(Checks c) {
        ObjectMachine x = Checks.loaded(Checks.main(1, "push 1 push 2 add store 0 goto b b : load 0 write back"));
        int[] due = {0, 1, 2, 1, 0, 0, 1, 0};
        for (int i = 0; i < due.length; i++) {
            c.due("height(" + i + ")", x.height(i), due[i]);
        }
        // Through the bodies, and at a handler.
        ObjectMachine y = Checks.loaded(Checks.main(0, "a : push 1 push 2 b : pop pop back c : pop back catch a b c Error",
            "static s ( int ) int 1 { load 0 give }", ""));
        int[] then = {0, 1, 2, 1, 0, 1, 0, 0, 1};
        for (int i = 0; i < then.length; i++) {
            c.due("height(" + i + ")", y.height(i), then[i]);
        }
        ObjectMachine z = Checks.loaded(Checks.main(0, Checks.times(8, "push # ") + "back"));
        for (int i = 0; i <= 8; i++) {
            c.due("height(" + i + ")", z.height(i), i);
        }
    }

    private static void noHeights(Checks c) {
        ObjectMachine x = Checks.loaded(Checks.main(1, "goto b pop pop back b : back c : read pop goto c"));
        int[] due = {0, -1, -1, -1, 0, -1, -1, -1};
        for (int i = 0; i < due.length; i++) {
            c.due("height(" + i + ")", x.height(i), due[i]);
        }
        for (int i : new int[] {8, 9, -1, 1023, 1024, 1025, LEAST, MOST}) {
            c.due("height(" + i + ")", x.height(i), -1);
        }
        ObjectMachine y = new ObjectMachine();
        c.due("height(0) without a program", y.height(0), -1);
        // A handler to which nothing comes; and a program shorter than the one before it.
        ObjectMachine z = Checks.loaded(Checks.main(0, "back a : read pop b : back c : pop back catch a b c Error"));
        c.due("height(4)", z.height(4), -1);
        Checks.give(z, MAIN);
        z.load();
        c.due("height(0)", z.height(0), 0);
        c.due("height(1)", z.height(1), -1);
        ObjectMachine w = Checks.loaded(Checks.main(0, Checks.times(511, "read pop ") + "goto a a : back"));
        c.due("height(1023)", w.height(1023), 0);
        c.due("height(1024)", w.height(1024), -1);
    }

    // ---- promises 8 and 9

    private static final String COPY = Checks.main(1, "push 0 store 0 a : read write inc 0 1 load 0 push 258 lt a back");

    private static void inputInOrder(Checks c) {
        ObjectMachine x = Checks.loaded(Checks.main(0, "read write read write read write back"));
        c.due("input", x.input(LEAST), true);
        c.due("input", x.input(MOST), true);
        c.due("input", x.input(-1), true);
        x.run(10);
        c.due("out(0)", x.out(0), LEAST);
        c.due("out(1)", x.out(1), MOST);
        c.due("out(2)", x.out(2), -1);
        // Before there is a program, and through loadings.
        ObjectMachine y = new ObjectMachine();
        c.due("input", y.input(7), true);
        Checks.give(y, "}");
        y.load();
        c.due("input", y.input(8), true);
        Checks.give(y, Checks.main(0, "read write read write back"));
        y.load();
        y.run(10);
        c.due("out(0)", y.out(0), 7);
        c.due("out(1)", y.out(1), 8);
    }

    private static void mostInput(Checks c) {
        ObjectMachine x = Checks.loaded(COPY);
        for (int k = 0; k < 256; k++) {
            c.due("input " + k, x.input(3 * k + 1), true);
        }
        c.due("input 257", x.input(5), false);
        c.due("input 258", x.input(6), false);
        c.due("run", x.run(20000), 0);
        c.due("out(0)", x.out(0), 1);
        c.due("out(255)", x.out(255), 766);
        c.due("there is room again", x.input(5), true);
    }

    private static void inputUsedUp(Checks c) {
        ObjectMachine x = Checks.loaded(COPY);
        x.input(4);
        c.due("run", x.run(20000), 0);
        c.due("out(0)", x.out(0), 4);
        c.due("run", x.run(20000), 0);
        c.due("out(0)", x.out(0), 0);
        // Also what the run has not read.
        x.input(5);
        x.input(6);
        c.due("run", x.run(0), 2);
        c.due("run", x.run(20000), 0);
        c.due("out(0)", x.out(0), 0);
        x.input(5);
        x.input(6);
        c.due("run", x.run(4), 2);
        c.due("out(0)", x.out(0), 5);
        c.due("run", x.run(20000), 0);
        c.due("out(0)", x.out(0), 0);
        for (int k = 0; k < 256; k++) {
            c.due("room for all", x.input(k), true);
        }
        c.due("input", x.input(0), false);
    }

    private static void fuels(Checks c) {
        ObjectMachine x = Checks.loaded(Checks.main(0, "a : push 1 pop goto a"));
        for (int fuel : new int[] {0, 1, 2, 3, 4, 100, 19999, 20000}) {
            c.due("run(" + fuel + ")", x.run(fuel), 2);
            c.due("steps", x.steps(), fuel);
        }
        String[] lines = {"back", "null throw", "a : goto a", "push 12001 array int pop back", "call Main.main back"};
        for (int outcome = 0; outcome < 5; outcome++) {
            c.due("run of " + lines[outcome], Checks.loaded(Checks.main(0, lines[outcome])).run(20000), outcome);
        }
    }

    private static void refusedRuns(Checks c) {
        ObjectMachine x = new ObjectMachine();
        c.due("run without a program", x.run(0), -1);
        c.due("run without a program", x.run(20000), -1);
        Checks.give(x, MAIN);
        c.due("run before the load", x.run(10), -1);
        x.load();
        for (int fuel : new int[] {-1, 20001, 20002, -20000, LEAST, MOST}) {
            c.due("run(" + fuel + ")", x.run(fuel), -1);
        }
        c.due("run(0)", x.run(0), 2);
        c.due("run(1)", x.run(1), 0);
        // A refused run leaves the input.
        ObjectMachine y = Checks.loaded(COPY);
        y.input(9);
        c.due("run(-1)", y.run(-1), -1);
        c.due("run(20001)", y.run(20001), -1);
        c.due("run", y.run(20000), 0);
        c.due("out(0)", y.out(0), 9);
    }

    // ---- promises 11 to 16

    private static void places(Checks c) {
        String[] lines = {"push 1 pop back", "push 1 pop null throw", "push 1 pop push 12001 array int pop back", "push 1 pop call Main.main back"};
        int[] outcomes = {0, 1, 3, 4};
        int[] due = {2, 3, 3, 2};
        for (int k = 0; k < 4; k++) {
            ObjectMachine x = Checks.loaded(Checks.main(0, lines[k]));
            c.due("run of " + lines[k], x.run(1000), outcomes[k]);
            c.due("place of " + lines[k], x.place(), due[k]);
            x.run(1);
            c.due("place of a later run", x.place(), 1);
        }
        // In whatever body it ended, of whatever class.
        ObjectMachine y = Checks.loaded("class A of Object { static s ( ) none 0 { read pop push 20000 array int pop back } } "
            + Checks.main(0, "call A.s back"));
        c.due("run", y.run(100), 3);
        c.due("place", y.place(), 3);
        y.run(-1);
        Checks.give(y, MAIN);
        y.load();
        c.due("place stays", y.place(), 3);
    }

    private static void nextPlaces(Checks c) {
        // Behind a plain instruction, a call, a jump, a return.
        int[] due = {0, 1, 3, 4, 7, 8, 2};
        ObjectMachine x = Checks.loaded(Checks.main(0, "push 1 call Main.f back", "static f ( int ) none 1 { push 0 goto g pop back g : pop back }", ""));
        for (int fuel = 0; fuel < due.length; fuel++) {
            c.due("run(" + fuel + ")", x.run(fuel), 2);
            c.due("place with fuel " + fuel, x.place(), due[fuel]);
        }
        // Behind a thrown object: its handler, also of a caller.
        ObjectMachine y = Checks.loaded(Checks.main(0, "a : null throw b : back c : pop back catch a b c Error"));
        c.due("run(2)", y.run(2), 2);
        c.due("place", y.place(), 3);
        ObjectMachine z = Checks.loaded(Checks.main(0, "a : call Main.s b : back c : pop back catch a b c Error", "static s ( ) none 0 { null throw }", ""));
        c.due("run(3)", z.run(3), 2);
        c.due("place", z.place(), 2);
    }

    private static void throwingPlaces(Checks c) {
        String text = Checks.main(0, "push 1 call Main.f back",
            "static f ( int ) none 1 { load 0 call Main.g back } static g ( int ) none 1 { load 0 push 0 div write back }", "");
        ObjectMachine x = Checks.loaded(text);
        c.due("run", x.run(100), 1);
        c.due("place", x.place(), 8);
        c.due("thrown", x.thrown(), 51);
        ObjectMachine y = Checks.loaded(text.replace("push 0 div write back", "pop new Error throw"));
        c.due("run", y.run(100), 1);
        c.due("place", y.place(), 9);
        // A catch that does not suit does not change it.
        ObjectMachine z = Checks.loaded(Checks.main(0, "a : call Main.s b : back c : pop back catch a b c CastError", "static s ( ) none 0 { null throw }", ""));
        c.due("run", z.run(100), 1);
        c.due("place", z.place(), 5);
        // An object that its handler throws: that is the instruction that threw it out.
        ObjectMachine w = Checks.loaded(Checks.main(0, "a : call Main.s b : back c : throw catch a b c Error", "static s ( ) none 0 { null throw }", ""));
        c.due("run", w.run(100), 1);
        c.due("place", w.place(), 2);
    }

    private static void thrownSites(Checks c) {
        ObjectMachine x = Checks.loaded(Checks.main(1, "new Object pop new Error store 0 push 1 array int pop load 0 throw"));
        c.due("run", x.run(100), 1);
        c.due("thrown", x.thrown(), 1);
        ObjectMachine y = Checks.loaded(Checks.main(1, "new Object pop null throw"));
        c.due("run", y.run(100), 1);
        c.due("thrown", y.thrown(), 48);
        // The one that left main, not one that was caught before it.
        ObjectMachine z = Checks.loaded(Checks.main(0, "a : null throw b : c : pop new Error throw catch a b c Error"));
        c.due("run", z.run(100), 1);
        c.due("thrown", z.thrown(), 0);
        ObjectMachine w = Checks.loaded(Checks.main(0, "a : new Error throw b : c : pop push 1 push 0 div catch a b c Error pop back"));
        c.due("run", w.run(100), 1);
        c.due("thrown", w.thrown(), 51);
    }

    private static void notThrown(Checks c) {
        ObjectMachine x = new ObjectMachine();
        c.due("thrown", x.thrown(), -1);
        String[] lines = {"back", "a : goto a", "push 12001 array int pop back", "call Main.main back", "a : null throw b : c : pop back catch a b c Error"};
        for (String line : lines) {
            ObjectMachine y = Checks.loaded(Checks.main(0, line));
            y.run(1000);
            c.due("thrown of " + line, y.thrown(), -1);
        }
        // A later run, whose outcome is another one.
        ObjectMachine z = Checks.loaded(Checks.main(0, "null throw"));
        c.due("run", z.run(10), 1);
        z.run(-1);
        c.due("thrown", z.thrown(), 48);
        c.due("run", z.run(1), 2);
        c.due("thrown", z.thrown(), -1);
    }

    private static final String MAKING = "class A of Object { field a int field b A } class B of A { field c int[] } "
        + Checks.main(0, "new A pop new B pop push 5 array int pop push 0 array A pop new Object pop null throw");

    private static void made(Checks c) {
        ObjectMachine x = Checks.loaded(MAKING);
        int[] fuels = {0, 1, 3, 6, 9, 11, 12, 20000};
        int[] objects = {0, 1, 2, 3, 4, 5, 5, 6};
        int[] cells = {0, 2, 5, 10, 10, 10, 10, 10};
        for (int k = 0; k < fuels.length; k++) {
            x.run(fuels[k]);
            c.due("made(0) with fuel " + fuels[k], x.made(0), objects[k]);
            c.due("made(1) with fuel " + fuels[k], x.made(1), cells[k]);
        }
        x.run(-1);
        c.due("made(0) behind a refused run", x.made(0), 6);
    }

    private static void noneMade(Checks c) {
        ObjectMachine x = new ObjectMachine();
        c.due("made(0)", x.made(0), 0);
        c.due("made(1)", x.made(1), 0);
        Checks.give(x, MAKING);
        x.load();
        c.due("made(0) without a run", x.made(0), 0);
        c.due("made(1) without a run", x.made(1), 0);
        for (int turn = 0; turn < 2; turn++) {
            for (int what : new int[] {-1, 2, 3, 100, LEAST, MOST}) {
                c.due("made(" + what + ")", x.made(what), -1);
            }
            x.run(20000);
        }
    }

    private static void written(Checks c) {
        ObjectMachine x = new ObjectMachine();
        c.due("written", x.written(), 0);
        Checks.give(x, Checks.main(1, "push 0 store 0 a : load 0 write inc 0 3 goto a"));
        x.load();
        c.due("written without a run", x.written(), 0);
        int[] fuels = {20000, 2 + 4 * 256, 2 + 4 * 257, 4, 3, 0};
        int[] due = {5000, 256, 257, 1, 0, 0};
        for (int k = 0; k < fuels.length; k++) {
            x.run(fuels[k]);
            c.due("written with fuel " + fuels[k], x.written(), due[k]);
        }
    }

    private static void outs(Checks c) {
        ObjectMachine x = Checks.loaded(Checks.main(1, "push 0 store 0 a : load 0 write inc 0 3 goto a"));
        x.run(20000);
        for (int k = 0; k < 256; k++) {
            c.due("out(" + k + ")", x.out(k), 3 * k);
        }
        x.run(4);
        c.due("out(0)", x.out(0), 0);
        ObjectMachine y = Checks.loaded(Checks.main(0, "push -2147483648 write push 2147483647 write back"));
        y.run(10);
        c.due("out(0)", y.out(0), LEAST);
        c.due("out(1)", y.out(1), MOST);
        y.run(-1);
        c.due("out(1) behind a refused run", y.out(1), MOST);
    }

    private static void noOuts(Checks c) {
        ObjectMachine x = new ObjectMachine();
        c.due("out(0) without a run", x.out(0), 0);
        Checks.give(x, Checks.main(1, "push 7 store 0 a : load 0 write inc 0 3 goto a"));
        x.load();
        x.run(20000);
        c.due("written", x.written(), 5000);
        for (int k : new int[] {256, 257, 4999, 5000, -1, LEAST, MOST}) {
            c.due("out(" + k + ")", x.out(k), 0);
        }
        c.due("out(255)", x.out(255), 7 + 3 * 255);
        // Behind a shorter run those of the longer one are gone.
        x.run(2 + 4 * 2);
        c.due("out(1)", x.out(1), 10);
        c.due("out(2)", x.out(2), 0);
        c.due("out(255)", x.out(255), 0);
    }

    private static void strays(Checks c) {
        ObjectMachine x = new ObjectMachine();
        c.due("strays", x.strays(), 0);
        String[] lines = {"back", "null throw", "a : goto a", "push 12001 array int pop back", "call Main.main back",
            "read read eq a new Error goto b a : null b : isnull e e : back", "push 1 array Main push 0 aload isnull e e : back"};
        for (String line : lines) {
            Checks.give(x, Checks.main(0, line));
            c.due("load of " + line, x.load(), 0);
            x.run(20000);
            c.due("strays of " + line, x.strays(), 0);
        }
        // A right program has none: these were changed behind the checks.
        StraysTest.all(c);
    }
}
