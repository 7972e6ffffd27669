/** The sentences of "Terms" 5 and of what stands behind it: running, sites, refused calls, texts. */
public final class RunSentencesTest {
    private static final int LEAST = Integer.MIN_VALUE;
    private static final int MOST = Integer.MAX_VALUE;
    private static final String CLASSES = "class A of Object { field f A field n int method m ( int ) int 2 { load 1 push 1 add give } } "
        + "class B of A { field g int[] method m ( int ) int 2 { load 1 push 100 add give } } class C of B { } "
        + "class E of Error { field k int } class F of E { } ";
    /** The number of main's first instruction: A.m and B.m lie before it, each with four. */
    private static final int MAIN = 8;
    private static final String GUARD = " b : back c : pop push 77 write back catch a b c Error";

    public static void main(String[] args) {
        Sentences sentences = new Sentences();
        all(sentences);
        sentences.run("RunSentencesTest", args);
    }

    static void all(Sentences s) {
        s.says("What is loaded never takes a value of the wrong kind.", RunSentencesTest::neverStrays);
        s.says("5 RUNNING. All values are ints of 32 bits, null, or objects.", RunSentencesTest::values);
        s.says("An object has a class and fields, each at first 0 or null,", RunSentencesTest::newFields);
        s.says("or is an array with a length and elements, likewise.", RunSentencesTest::newElements);
        s.says("main runs with all locals unset.", RunSentencesTest::localsOfMain);
        s.says("add sub mul neg wrap;", RunSentencesTest::wraps);
        s.says("div cuts towards 0 (-2147483648 / -1 is itself, rem 0);", RunSentencesTest::divides);
        s.says("shl and shr shift by the lowest 5 bits, shr keeps the sign.", RunSentencesTest::shifts);
        s.says("eq .. ge: a is compared with b (b on top).", RunSentencesTest::compares);
        s.says("inc adds N, wrapping.", RunSentencesTest::increments);
        s.says("read leaves the next int of the INPUT, 0 behind its end;", RunSentencesTest::reads);
        s.says("write puts an int out.", c -> ran(c, "push -5 write push 2147483647 write push -2147483648 write back", 0, -5, MOST, LEAST));
        s.says("is: 1 if it is no null and its class is T or below (of arrays their type), else 0.", RunSentencesTest::is);
        s.says("cast: null and such objects stay.", RunSentencesTest::casts);
        s.says("call and send run the body (send: that of the name in the object's class, or the nearest above it)", RunSentencesTest::sends);
        s.says("with the arguments as locals;", RunSentencesTest::arguments);
        s.says("give and back go on behind the call.", RunSentencesTest::goesBack);
        errors(s);
        ends(s);
        others(s);
    }

    private static void errors(Sentences s) {
        s.says("ERRORS: length, aload, astore, get, put, send, throw of null: NullError;", RunSentencesTest::nullErrors);
        s.says("an index below 0 or not below the length: IndexError;", RunSentencesTest::indexErrors);
        s.says("array with a count below 0: SizeError;", c -> {
            error(c, "push -1 array int pop back", 50, 1);
            error(c, "push -1 array A pop back", 50, 1);
            error(c, "push -2147483648 array int pop back", 50, 1);
            ran(c, "push 0 array int length write push 0 array A length write back", 0, 0, 0);
        });
        s.says("div and rem by 0: DivideError;", c -> {
            for (int a : new int[] {0, 1, -1, MOST, LEAST}) {
                error(c, "push " + a + " push 0 div pop back", 51, 2);
                error(c, "push " + a + " push 0 rem pop back", 51, 2);
                error(c, "push " + a + " push -0 rem pop back", 51, 2);
            }
        });
        s.says("cast else: CastError;", c -> {
            for (String wrong : "new A cast B,new Object cast A,new A cast E,new A cast A[],new A cast int[]".split(",")) {
                error(c, wrong + " pop back", 52, 1);
            }
            for (String wrong : "array A cast B[],array int cast A[],array int cast Object[],array A cast int[],array A cast A".split(",")) {
                error(c, "push 1 " + wrong + " pop back", 52, 2);
            }
        });
        s.says("astore of an object that is not below the element's class of the array (as it was made): StoreError;",
            RunSentencesTest::storeErrors);
        s.says("in this order.", c -> {
            error(c, "null push -1 new A astore back", 48, 3);
            error(c, "push 1 array B cast Object[] push 1 new A astore back", 49, 5);
            error(c, "push 1 array B cast Object[] push -1 new A astore back", 49, 5);
            error(c, "push 1 array B cast Object[] push 0 new A astore back", 53, 5);
        });
        s.says("An error is a new object of its class.", RunSentencesTest::newErrors);
        s.says("Thrown objects go to the first catch, in the order of the text, of the body that runs", RunSentencesTest::firstCatch);
        s.says("whose FROM to TO has the instruction", RunSentencesTest::fromTo);
        s.says("and whose CLASS is the object's or above it:", RunSentencesTest::classOfCatch);
        s.says("the stack becomes the object alone.", RunSentencesTest::objectAlone);
        s.says("Without one the body ends, and the object is thrown by the call.", RunSentencesTest::thrownByTheCall);
    }

    private static void ends(Sentences s) {
        s.says("STEPS: each instruction that is begun is one (also one that raises an error).", RunSentencesTest::steps);
        s.says("A run ends: outcome 0 main came to back;", RunSentencesTest::comesBack);
        s.says("1 an object was thrown out of main;", RunSentencesTest::thrownOut);
        s.says("2 the step would be one more than the fuel;", RunSentencesTest::outOfFuel);
        s.says("3 the heap is full: a run makes at most 2000 objects", RunSentencesTest::mostObjects);
        s.says("with 12000 fields and elements in all", RunSentencesTest::mostCells);
        s.says("(one more: that instruction does nothing;", RunSentencesTest::doesNothing);
        s.says("errors are objects too);", RunSentencesTest::mostErrors);
        s.says("4 a 65th body would be run at a time.", RunSentencesTest::mostBodies);
    }

    private static void others(Sentences s) {
        s.says("SITES: the instructions new and array have numbers from 0 in the order of the text;", RunSentencesTest::sites);
        s.says("48 .. 53 are the errors that are raised by themselves, NullError .. StoreError in the order of 3.", RunSentencesTest::errorSites);
        s.says("A call that is refused changes nothing.", RunSentencesTest::refusedCalls);
        s.says("Texts are used up: at most 65536 bytes can be fed in all.", RunSentencesTest::bytesInAll);
    }

    // ---- helpers

    private static String in(String lines) {
        return Checks.main(4, lines, "static add ( int int ) int 3 { load 0 load 1 add give }", CLASSES);
    }

    private static ObjectMachine ran(Checks c, String lines, int outcome, int... outs) {
        return c.ran(in(lines), outcome, outs);
    }

    /** Lines that raise an error with this site at this instruction of main: out of main, and caught as its class and as Error. */
    private static void error(Checks c, String lines, int site, int at) {
        ObjectMachine x = ran(c, lines, 1);
        c.due("thrown of " + lines, x.thrown(), site);
        c.due("place of " + lines, x.place(), MAIN + at);
        c.due("steps of " + lines, x.steps(), at + 1);
        String name = "NullError IndexError SizeError DivideError CastError StoreError".split(" ")[site - 48];
        ran(c, "a : " + lines + GUARD, 0, 77);
        ran(c, "a : " + lines + GUARD.replace("c Error", "c " + name), 0, 77);
        String others = "NullError IndexError SizeError DivideError CastError StoreError".replace(name, "E");
        for (String other : others.split(" ")) {
            ran(c, "a : " + lines + GUARD.replace("c Error", "c " + other), 1);
        }
    }

    // ---- values

    private static void neverStrays(Checks c) {
        // Each of these is right only if its values are of the kinds that were told; ran() looks at strays.
        ran(c, "read read eq a new C goto b a : new A b : dup get A.n write push 1 send A.m write back", 0, 0, 2);
        ran(c, "push 2 array B store 0 load 0 cast A[] push 0 new C astore load 0 push 0 aload get B.g isnull a back a : push 1 write back", 0, 1);
        ran(c, "a : push 1 null push 0 aload add write" + GUARD, 0, 77);
        ran(c, "push 5 store 0 a : null store 0 null length write" + GUARD, 0, 77);
        ran(c, "push 1 store 0 a : load 0 push 0 div store 0 b : back c : get E.k write back d : pop load 0 write back "
            + "catch a b c E catch a b d Error", 0, 1);
        // What would take one is not loaded.
        c.fault(4, in("null @write back"));
        c.fault(4, in("push 1 @get A.n write back"));
        c.fault(4, in("new A @get B.g pop back"));
        c.fault(4, in("@load 0 pop back"));
        c.fault(4, in("push 1 @add pop back"));
    }

    private static void values(Checks c) {
        ran(c, "push 2147483647 write push -2147483648 write push -1 write push 65536 write back", 0, MOST, LEAST, -1, 65536);
        ran(c, "null isnull a back a : push 1 write back", 0, 1);
        // The same object, not a copy of it, goes from place to place.
        ran(c, "new A store 0 load 0 store 1 load 1 push 4 put A.n load 0 get A.n write load 0 load 1 same a back a : push 1 write back", 0, 4, 1);
        ran(c, "new A new A same a push 1 write back a : push 2 write back", 0, 1);
        ran(c, "push 0 array int push 0 array int other a push 1 write back a : push 2 write back", 0, 2);
    }

    private static void newFields(Checks c) {
        ObjectMachine x = Checks.loaded(in("new B store 0 load 0 get A.n write load 0 get A.f isnull a push 8 write a : load 0 get B.g isnull b "
            + "push 9 write b : load 0 push 5 put A.n load 0 load 0 put A.f load 0 push 3 array int put B.g back"));
        for (int turn = 0; turn < 3; turn++) {
            // Also where an earlier run has left something else.
            c.due("run", x.run(1000), 0);
            c.due("written", x.written(), 1);
            c.due("out(0)", x.out(0), 0);
        }
        c.due("made(1)", x.made(1), 3 + 3);
        c.due("fields of C", ran(c, "new C pop back", 0).made(1), 3);
        c.due("fields of Object", ran(c, "new Object pop back", 0).made(1), 0);
        ran(c, "new A store 0 new A store 1 load 0 push 5 put A.n load 1 get A.n write back", 0, 0);
        // Each field is one of its own, also those of the classes above.
        ran(c, "new C store 0 load 0 push 5 put A.n load 0 load 0 put A.f load 0 push 3 array int put B.g load 0 get C.n write load 0 get C.g length write "
            + "load 0 get C.f load 0 same a back a : push 1 write back", 0, 5, 3, 1);
        ran(c, "new E store 0 new F store 1 load 0 push 5 put E.k load 1 push 6 put F.k load 0 get E.k write load 1 get E.k write back", 0, 5, 6);
    }

    private static void newElements(Checks c) {
        ObjectMachine x = Checks.loaded(in("push 3 array int store 0 load 0 length write load 0 push 0 aload write load 0 push 2 aload write "
            + "load 0 push 2 push 9 astore load 0 push 0 push 8 astore push 2 array A store 1 load 1 push 1 aload isnull a push 7 write "
            + "a : load 1 push 1 new A astore back"));
        for (int turn = 0; turn < 3; turn++) {
            c.due("run", x.run(1000), 0);
            c.due("written", x.written(), 3);
            c.due("length", x.out(0), 3);
            c.due("element 0", x.out(1), 0);
            c.due("element 2", x.out(2), 0);
        }
        ran(c, "push 0 array int length write push 12000 array int length write back", 0, 0, 12000);
        ran(c, "push 2 array int store 0 push 2 array int store 1 load 0 push 1 push 5 astore load 1 push 0 aload write load 0 push 1 aload write back", 0, 0, 5);
    }

    private static void localsOfMain(Checks c) {
        for (int k = 0; k < 4; k++) {
            c.fault(4, in("@load " + k + " pop back"));
        }
        // Also when main is run by a call.
        c.fault(4, Checks.main(1, "@load 0 pop push 1 store 0 call Main.main back"));
        ran(c, "read push 0 eq a push 7 store 0 call Main.main load 0 write a : back", 0);
        ObjectMachine x = Checks.loaded(in("read push 0 eq a push 7 store 0 call Main.main load 0 write back a : null store 0 back"));
        x.input(1);
        c.due("run", x.run(100), 0);
        c.due("out(0)", x.out(0), 7);
        c.due("strays", x.strays(), 0);
    }

    private static void calculated(Checks c, String op, int a, int b, int due) {
        ran(c, "push " + a + " push " + b + " " + op + " write back", 0, due);
    }

    private static void wraps(Checks c) {
        calculated(c, "add", MOST, 1, LEAST);
        calculated(c, "add", LEAST, -1, MOST);
        calculated(c, "add", LEAST, LEAST, 0);
        calculated(c, "add", MOST, LEAST, -1);
        calculated(c, "sub", LEAST, 1, MOST);
        calculated(c, "sub", MOST, -1, LEAST);
        calculated(c, "sub", 0, LEAST, LEAST);
        calculated(c, "sub", 5, 3, 2);
        calculated(c, "mul", 65536, 65536, 0);
        calculated(c, "mul", MOST, MOST, 1);
        calculated(c, "mul", LEAST, -1, LEAST);
        calculated(c, "mul", 65535, 65537, -1);
        ran(c, "push -2147483648 neg write push 2147483647 neg write push 0 neg write push -5 neg write back", 0, LEAST, -MOST, 0, 5);
    }

    private static void divides(Checks c) {
        calculated(c, "div", 7, 2, 3);
        calculated(c, "div", -7, 2, -3);
        calculated(c, "div", 7, -2, -3);
        calculated(c, "div", -7, -2, 3);
        calculated(c, "div", 1, 2, 0);
        calculated(c, "div", -1, 2, 0);
        calculated(c, "div", LEAST, -1, LEAST);
        calculated(c, "div", MOST, -1, -MOST);
        calculated(c, "div", LEAST, LEAST, 1);
        calculated(c, "div", MOST, LEAST, 0);
        calculated(c, "rem", 7, 2, 1);
        calculated(c, "rem", -7, 2, -1);
        calculated(c, "rem", 7, -2, 1);
        calculated(c, "rem", -7, -2, -1);
        calculated(c, "rem", LEAST, -1, 0);
        calculated(c, "rem", LEAST, MOST, -1);
        calculated(c, "rem", MOST, LEAST, MOST);
    }

    private static void shifts(Checks c) {
        int[] by = {0, 1, 31, 32, 33, 63, 64, -1, -32, -31, LEAST, MOST};
        int[] bits = {0, 1, 31, 0, 1, 31, 0, 31, 0, 1, 0, 31};
        for (int k = 0; k < by.length; k++) {
            for (int a : new int[] {1, -1, 5, -5, MOST, LEAST, 0x12345678}) {
                calculated(c, "shl", a, by[k], (int) ((long) a << bits[k]));
                calculated(c, "shr", a, by[k], (int) Math.floorDiv((long) a, 1L << bits[k]));
            }
        }
        calculated(c, "shr", LEAST, 31, -1);
        calculated(c, "shl", 3, 31, LEAST);
    }

    private static void compares(Checks c) {
        int[][] pairs = {{1, 2}, {2, 1}, {2, 2}, {LEAST, MOST}, {MOST, LEAST}, {-1, 0}, {0, -1}, {LEAST, LEAST}, {LEAST, 1}, {MOST, -1}};
        String[] ops = {"eq", "ne", "lt", "le", "gt", "ge"};
        for (int[] p : pairs) {
            boolean[] due = {p[0] == p[1], p[0] != p[1], p[0] < p[1], p[0] <= p[1], p[0] > p[1], p[0] >= p[1]};
            for (int k = 0; k < 6; k++) {
                ran(c, "push " + p[0] + " push " + p[1] + " " + ops[k] + " y push 0 write back y : push 1 write back", 0, due[k] ? 1 : 0);
            }
        }
    }

    private static void increments(Checks c) {
        ran(c, "push 2147483647 store 0 inc 0 1 load 0 write back", 0, LEAST);
        ran(c, "push -2147483648 store 0 inc 0 -1 load 0 write back", 0, MOST);
        ran(c, "push -2147483648 store 3 inc 3 -2147483648 load 3 write back", 0, 0);
        ran(c, "push 5 store 1 push 9 store 2 inc 1 -7 inc 1 0 load 1 write load 2 write back", 0, -2, 9);
    }

    private static void reads(Checks c) {
        ObjectMachine x = Checks.loaded(in("read write read write read write read write back"));
        x.input(5);
        x.input(LEAST);
        c.due("run", x.run(100), 0);
        int[] due = {5, LEAST, 0, 0};
        for (int k = 0; k < 4; k++) {
            c.due("out(" + k + ")", x.out(k), due[k]);
        }
        c.due("run without input", x.run(100), 0);
        c.due("out(0)", x.out(0), 0);
        // The whole input of 256, and the int behind it.
        ObjectMachine y = Checks.loaded(in("push 0 store 0 a : read write inc 0 1 load 0 push 255 lt a read write read write back"));
        for (int k = 0; k < 256; k++) {
            y.input(1000 + k);
        }
        c.due("run", y.run(20000), 0);
        c.due("written", y.written(), 257);
        c.due("out(0)", y.out(0), 1000);
        c.due("out(255)", y.out(255), 1255);
        ObjectMachine z = Checks.loaded(in("push 0 store 0 a : read pop inc 0 1 load 0 push 255 lt a read write read write back"));
        for (int k = 0; k < 256; k++) {
            z.input(1000 + k);
        }
        c.due("run", z.run(20000), 0);
        c.due("the 256th int", z.out(0), 1255);
        c.due("behind its end", z.out(1), 0);
    }

    // ---- objects and bodies

    private static final String[] MADE = {"null", "new Object", "new A", "new B", "new C", "push 1 array A", "push 1 array B", "push 1 array int",
        "push 1 array Object", "new Error", "new F"};
    private static final String[] TYPES = {"Object", "A", "B", "A[]", "B[]", "Object[]", "int[]", "Error", "E"};
    /** For each of MADE whether it is one of TYPES. */
    private static final String[] IS = {"000000000", "100000000", "110000000", "111000000", "111000000", "100101000", "100111000", "100000100",
        "100001000", "100000010", "100000011"};

    private static void is(Checks c) {
        for (int m = 0; m < MADE.length; m++) {
            for (int t = 0; t < TYPES.length; t++) {
                ran(c, MADE[m] + " is " + TYPES[t] + " write back", 0, IS[m].charAt(t) - '0');
            }
        }
    }

    private static void casts(Checks c) {
        for (int m = 0; m < MADE.length; m++) {
            for (int t = 0; t < TYPES.length; t++) {
                if (m == 0 || IS[m].charAt(t) == '1') {
                    ran(c, MADE[m] + " dup cast " + TYPES[t] + " same a push 0 write back a : push 1 write back", 0, 1);
                }
            }
        }
        ran(c, "new B cast A push 1 send A.m write new C cast Object cast B get B.n write back", 0, 101, 0);
    }

    private static void sends(Checks c) {
        ran(c, "push 30 push 12 call Main.add write new A push 1 send A.m write back", 0, 42, 2);
        ran(c, "new B push 1 send A.m write new C push 1 send A.m write new C push 1 send C.m write new B push 1 send B.m write back", 0, 101, 101, 101, 101);
        String classes = "class K of Object { method m ( ) int 1 { push 1 give } method n ( ) int 1 { load 0 send K.m give } } class L of K { } "
            + "class M of L { method m ( ) int 1 { push 3 give } } class N of M { method n ( ) int 1 { push 4 give } } "
            + "class X of Object { method m ( ) int 1 { push 9 give } } ";
        c.ran(Checks.main(0, "new K send K.n write new L send K.n write new M send L.n write new N send K.n write new N send L.m write new X send X.m write back",
            "", classes), 0, 1, 1, 3, 4, 3, 9);
    }

    private static void arguments(Checks c) {
        c.ran(Checks.main(0, "push 1 push 2 push 3 push 4 push 5 push 6 push 7 push 8 call Main.s write back",
            "static s ( " + Checks.times(8, "int ") + ") int 8 { load 0 push 10 mul load 7 add give }", ""), 0, 18);
        // Of a method the object is the first; the most that a stack has room for.
        c.ran("class Main of Object { field n int static main ( ) none 1 { new Main dup push 5 put Main.n push 1 push 2 push 3 push 4 push 5 push 6 push 7 "
            + "send Main.m write back } method m ( " + Checks.times(7, "int ") + ") int 12 { load 0 get Main.n push 100 mul load 1 push 10 mul add load 7 add give } }",
            0, 517);
        // What lies below stays, and the locals of the caller too.
        ran(c, "push 9 store 0 push 7 push 1 push 2 call Main.add write write load 0 write back", 0, 3, 7, 9);
        c.ran(Checks.main(1, "push 5 store 0 push 1 call Main.s push 2 call Main.s load 0 write back",
            "static s ( int ) none 2 { load 0 write push 3 store 0 push 4 store 1 back }", ""), 0, 1, 2, 5);
    }

    private static void goesBack(Checks c) {
        c.ran(Checks.main(0, "push 1 call Main.s write write back", "static s ( ) int 0 { push 7 push 8 push 9 give }", ""), 0, 9, 1);
        c.ran(Checks.main(0, "push 1 call Main.s write back", "static s ( ) none 0 { push 7 push 8 back }", ""), 0, 1);
        ran(c, "new A push 1 send A.m write push 5 write back", 0, 2, 5);
        // The value that is given lands where the arguments lay, also on a full stack.
        c.ran(Checks.main(0, Checks.times(7, "push # ") + "call Main.s add write write back", "static s ( ) int 0 { push 9 give }", ""), 0, 15, 5);
        // Back of a main that was called goes on behind its call.
        ObjectMachine x = Checks.loaded(in("read push 0 eq a call Main.main push 5 write a : back"));
        x.input(1);
        x.input(1);
        c.due("run", x.run(100), 0);
        c.due("written", x.written(), 2);
    }

    // ---- errors

    private static void nullErrors(Checks c) {
        error(c, "null length pop back", 48, 1);
        error(c, "null push 0 aload pop back", 48, 2);
        error(c, "null push 0 push 0 astore back", 48, 3);
        error(c, "null push 0 null astore back", 48, 3);
        error(c, "null get A.n pop back", 48, 1);
        error(c, "null get A.f pop back", 48, 1);
        error(c, "null push 1 put A.n back", 48, 2);
        error(c, "null null put A.f back", 48, 2);
        error(c, "null push 1 send A.m pop back", 48, 2);
        error(c, "null throw", 48, 1);
        // The null of a field, of an element, of a cast.
        error(c, "new A get A.f get A.n pop back", 48, 2);
        error(c, "push 1 array A push 0 aload push 1 send A.m pop back", 48, 5);
        error(c, "null cast E throw", 48, 2);
        // Others than these take null.
        ran(c, "null isnull a back a : null notnull b null null same b2 b : back b2 : null null other b null is A write null cast A pop push 1 write back", 0, 0, 1);
    }

    private static void indexErrors(Checks c) {
        for (String index : "-1 2 3 2147483647 -2147483648".split(" ")) {
            error(c, "push 2 array int push " + index + " aload pop back", 49, 3);
            error(c, "push 2 array A push " + index + " aload pop back", 49, 3);
            error(c, "push 2 array int push " + index + " push 5 astore back", 49, 4);
            error(c, "push 2 array A push " + index + " null astore back", 49, 4);
        }
        error(c, "push 0 array int push 0 aload pop back", 49, 3);
        error(c, "push 0 array A push 0 null astore back", 49, 4);
        ran(c, "push 2 array int store 0 load 0 push 0 push 5 astore load 0 push 1 push 6 astore load 0 push 0 aload write load 0 push 1 aload write back", 0, 5, 6);
        // Not over into the array that lies behind it, or before it.
        error(c, "push 2 array int store 0 push 2 array int store 1 load 0 push 2 aload pop back", 49, 8);
        error(c, "push 2 array int store 0 push 2 array int store 1 load 1 push -1 aload pop back", 49, 8);
    }

    private static void storeErrors(Checks c) {
        error(c, "push 1 array B cast Object[] push 0 new A astore back", 53, 5);
        error(c, "push 1 array B cast A[] push 0 new A astore back", 53, 5);
        error(c, "push 1 array A cast Object[] push 0 push 1 array int astore back", 53, 6);
        error(c, "push 1 array A cast Object[] push 0 push 1 array A astore back", 53, 6);
        error(c, "push 1 array F cast Error[] push 0 new E astore back", 53, 5);
        ran(c, "push 1 array B cast Object[] push 0 new C astore push 1 array B cast A[] push 0 new B astore push 1 array B cast A[] push 0 null astore "
            + "push 1 array Object push 0 push 1 array int astore push 1 array Object push 0 new A astore push 1 array int push 0 push 5 astore back", 0);
        // What was there stays.
        ran(c, "push 1 array B store 0 load 0 push 0 new C astore a : load 0 cast A[] push 0 new A astore b : back c : pop load 0 push 0 aload is C write back "
            + "catch a b c StoreError", 0, 1);
    }

    private static void newErrors(Checks c) {
        String[] raising = {"null length pop", "push 1 array int push 1 aload pop", "push -1 array int pop", "push 1 push 0 div pop", "new A cast B pop",
            "push 1 array B cast Object[] push 0 new A astore"};
        int[] made = {0, 1, 0, 0, 1, 2};
        String[] names = "NullError IndexError SizeError DivideError CastError StoreError".split(" ");
        for (int k = 0; k < 6; k++) {
            String lines = "a : " + raising[k] + " b : back c : dup is " + names[k] + " write dup is Error write is E write back catch a b c Error";
            ObjectMachine x = ran(c, lines, 0, 1, 1, 0);
            c.due("objects of " + lines, x.made(0), made[k] + 1);
        }
        // A new one each time, without fields.
        ObjectMachine y = ran(c, "null store 0 push 0 store 1 l : a : null length pop b : back c : dup load 0 cast Error same same store 0 inc 1 1 "
            + "load 1 push 2 lt l push 5 write back same : push 9 write back catch a b c Error", 0, 5);
        c.due("objects", y.made(0), 2);
        c.due("fields", y.made(1), 0);
    }

    private static void firstCatch(Checks c) {
        String lines = "a : null length write b : back c : pop push 1 write back d : pop push 2 write back ";
        ran(c, lines + "catch a b c Error catch a b d Error", 0, 1);
        ran(c, lines + "catch a b d Error catch a b c Error", 0, 2);
        ran(c, lines + "catch a b d Error catch a b c NullError", 0, 2);
        ran(c, "catch a b d Error " + lines + "catch a b c NullError", 0, 2);
        ran(c, lines + "catch a b c CastError catch a b d Error", 0, 2);
        // The inner range has no right before the outer one: the text's order counts.
        ran(c, "x : push 1 pop " + lines.replace("write b :", "b : write y :") + "catch x y d Error catch a b c NullError", 0, 2);
        // The body that runs, before those that called it.
        c.ran(Checks.main(0, "a : call Main.s b : push 3 write back c : pop push 1 write back catch a b c Error",
            "static s ( ) none 0 { a : null throw b : c : pop push 2 write back catch a b c Error }", ""), 0, 2, 3);
    }

    private static void fromTo(Checks c) {
        ran(c, "push 1 push 0 a : div b : write back c : pop push 7 write back catch a b c Error", 0, 7);
        c.due("thrown", ran(c, "push 1 a : push 0 b : div write back c : pop push 7 write back catch a b c Error", 1).thrown(), 51);
        c.due("thrown", ran(c, "push 1 push 0 div a : write b : back c : pop push 7 write back catch a b c Error", 1).thrown(), 51);
        ran(c, "a : push 1 push 0 div write b : back c : pop push 7 write back catch a b c Error", 0, 7);
        // A handler is outside, unless it lies between.
        c.due("thrown", ran(c, "a : null length pop b : back c : null length pop back catch a b c Error", 1).place(), MAIN + 5);
        ran(c, "push 3 store 0 goto a c : pop load 0 write inc 0 -1 load 0 push 0 eq e a : null length write b : e : back catch a b c Error", 0, 3, 2, 1);
    }

    private static void classOfCatch(Checks c) {
        for (String pair : "F F,F E,F Error,E E,E Error,NullError NullError,NullError Error".split(",")) {
            ran(c, "a : new " + pair.split(" ")[0] + " throw b : c : pop push 1 write back catch a b c " + pair.split(" ")[1], 0, 1);
        }
        for (String pair : "E F,Error E,Error NullError,E NullError,NullError E,IndexError SizeError".split(",")) {
            c.due("thrown", ran(c, "a : new " + pair.split(" ")[0] + " throw b : c : pop push 1 write back catch a b c " + pair.split(" ")[1], 1).thrown(), 0);
        }
    }

    private static void objectAlone(Checks c) {
        // The handler has room for seven more.
        ran(c, "push 4 store 0 a : push 1 push 2 push 3 push 4 push 5 push 6 push 7 push 0 div b : back c : pop load 0 write push 1 push 2 push 3 push 4 push 5 "
            + "push 6 push 7 push 8 add write back catch a b c Error", 0, 4, 15);
        ran(c, "a : new F dup push 6 put E.k throw b : c : get E.k write back catch a b c E", 0, 6);
        ran(c, "new F store 0 push 1 push 2 a : load 0 throw b : c : load 0 same d back d : push 1 write back catch a b c F", 0, 1);
    }

    private static void thrownByTheCall(Checks c) {
        String deep = "static f ( ) int 0 { push 1 call Main.g add give } static g ( ) int 0 { call Main.h give } "
            + "static h ( ) int 0 { a : new F throw b : c : pop push 5 give catch a b c NullError }";
        c.ran(Checks.main(1, "push 9 a : call Main.f write b : write back c : is E write back catch a b c Error", deep, CLASSES), 0, 1);
        c.ran(Checks.main(1, "push 9 a : pop b : call Main.f write back c : is E write back catch a b c Error", deep, CLASSES), 1);
        // By the call: it stands between FROM and TO, or not.
        c.ran(Checks.main(1, "a : push 1 pop b : call Main.f write back c : pop push 1 write back catch a b c Error", deep, CLASSES), 1);
        c.ran(Checks.main(1, "push 1 pop a : call Main.f b : write back c : pop push 1 write back catch a b c Error", deep, CLASSES), 0, 1);
        c.ran("class Main of Object { static main ( ) none 0 { new Main a : send Main.m b : back c : pop push 3 write back catch a b c Error } "
            + "method m ( ) none 1 { null throw } }", 0, 3);
    }

    // ---- ends of a run

    private static void steps(Checks c) {
        c.due("steps", ran(c, "back", 0).steps(), 1);
        c.due("steps", ran(c, "push 1 pop goto a a : back", 0).steps(), 4);
        c.due("of an error", ran(c, "null length pop back", 1).steps(), 2);
        c.due("of an error that is caught", ran(c, "a : null length pop b : back c : pop back catch a b c Error", 0).steps(), 4);
        c.due("of a call", ran(c, "push 1 push 2 call Main.add pop back", 0).steps(), 9);
        c.due("of a throw", ran(c, "new E throw", 1).steps(), 2);
        c.due("of an error in a call", c.ran(Checks.main(0, "call Main.s back", "static s ( ) none 0 { null throw }", ""), 1).steps(), 3);
    }

    private static void comesBack(Checks c) {
        c.due("place", ran(c, "read read eq a back a : push 1 write back", 0, 1).place(), MAIN + 6);
        ran(c, "push 1 push 2 null back", 0);
        ObjectMachine x = c.ran(Checks.main(0, "call Main.s push 1 write back", "static s ( ) none 0 { back }", ""), 0, 1);
        c.due("place", x.place(), 3);
    }

    private static void thrownOut(Checks c) {
        c.due("thrown", ran(c, "new E throw", 1).thrown(), 0);
        c.due("thrown", ran(c, "null throw", 1).thrown(), 48);
        c.due("thrown", ran(c, "a : new E throw b : c : throw catch a b c Error", 1).thrown(), 0);
        c.due("thrown", c.ran(Checks.main(0, "call Main.s back", "static s ( ) none 0 { null throw }", ""), 1).thrown(), 48);
        ran(c, "a : new E throw b : c : pop back catch a b c Error", 0);
    }

    private static void outOfFuel(Checks c) {
        ObjectMachine x = Checks.loaded(in("push 1 write push 2 write back"));
        int[] outcomes = {2, 2, 2, 2, 2, 0, 0};
        for (int fuel = 0; fuel < outcomes.length; fuel++) {
            c.due("run(" + fuel + ")", x.run(fuel), outcomes[fuel]);
            c.due("steps", x.steps(), Math.min(fuel, 5));
            c.due("written", x.written(), Math.min(fuel, 4) / 2);
        }
        ObjectMachine y = Checks.loaded(in("push 1 push 0 div pop back"));
        c.due("run(2)", y.run(2), 2);
        c.due("run(3)", y.run(3), 1);
        ObjectMachine z = Checks.loaded(in("push 20000 array int pop back"));
        c.due("run(1)", z.run(1), 2);
        c.due("run(2)", z.run(2), 3);
        ObjectMachine w = Checks.loaded(Checks.main(0, "call Main.main back"));
        c.due("run(63)", w.run(63), 2);
        c.due("run(64)", w.run(64), 4);
        ObjectMachine v = Checks.loaded(in("a : goto a"));
        c.due("run(20000)", v.run(20000), 2);
        c.due("steps", v.steps(), 20000);
    }

    private static String makes(int objects, String behind) {
        return in("push 0 store 0 l : new Object pop inc 0 1 load 0 push " + objects + " lt l " + behind);
    }

    private static void mostObjects(Checks c) {
        c.due("made(0)", c.ran(makes(2000, "back"), 0).made(0), 2000);
        for (String more : "new Object pop back,push 0 array int pop back,push 0 array A pop back".split(",")) {
            ObjectMachine x = c.ran(makes(2000, more), 3);
            c.due("made(0)", x.made(0), 2000);
            c.due("made(1)", x.made(1), 0);
            c.ran(makes(1999, more), 0);
        }
        // Objects without an owner count too, and each run has a heap of its own.
        ObjectMachine y = Checks.loaded(makes(2000, "back"));
        c.due("run", y.run(20000), 0);
        c.due("second run", y.run(20000), 0);
        c.due("made(0)", y.made(0), 2000);
    }

    private static void mostCells(Checks c) {
        c.due("made(1)", ran(c, "push 12000 array int pop back", 0).made(1), 12000);
        c.due("made(1)", ran(c, "push 12000 array A pop back", 0).made(1), 12000);
        for (int count : new int[] {12001, 20000, MOST}) {
            ObjectMachine x = ran(c, "push " + count + " array int pop back", 3);
            c.due("made(0)", x.made(0), 0);
            c.due("made(1)", x.made(1), 0);
        }
        // Fields and elements in all: A has two fields, B three.
        c.due("made(1)", ran(c, "push 11995 array int pop new A pop new B pop back", 0).made(1), 12000);
        c.due("made(1)", ran(c, "push 11996 array int pop new A pop new B pop back", 3).made(1), 11998);
        c.due("made(1)", ran(c, "push 11999 array int pop new A pop back", 3).made(1), 11999);
        c.due("made(1)", ran(c, "push 6000 array A pop push 6000 array int pop back", 0).made(1), 12000);
        c.due("made(1)", ran(c, "push 6000 array A pop push 6001 array int pop back", 3).made(1), 6000);
        // What has no fields or elements still has room.
        c.due("made(0)", ran(c, "push 12000 array int pop new Object pop push 0 array int pop back", 0).made(0), 3);
    }

    private static void doesNothing(Checks c) {
        ObjectMachine x = c.ran(makes(2000, "new A pop back"), 3);
        c.due("made(0)", x.made(0), 2000);
        c.due("made(1)", x.made(1), 0);
        c.due("place", x.place(), MAIN + 8);
        c.due("steps, with the one that was begun", x.steps(), 2 + 2000 * 6 + 1);
        ObjectMachine y = ran(c, "push 1 write push 12001 array int pop push 2 write back", 3, 1);
        c.due("made(0)", y.made(0), 0);
        c.due("made(1)", y.made(1), 0);
        c.due("place", y.place(), MAIN + 3);
        c.due("steps", y.steps(), 4);
        c.due("thrown", y.thrown(), -1);
        // It raises no error that could be caught.
        ran(c, "a : push 12001 array int pop" + GUARD, 3);
        // A count below 0 is an error even then.
        c.due("thrown", ran(c, "push 12000 array int pop push -1 array int pop back", 1).thrown(), 50);
    }

    private static void mostErrors(Checks c) {
        c.due("made(0)", c.ran(makes(1999, "null throw"), 1).made(0), 2000);
        for (String raising : "null throw,null length pop back,push 1 push 0 div pop back,push -1 array int pop back".split(",")) {
            ObjectMachine x = c.ran(makes(2000, raising), 3);
            c.due("made(0)", x.made(0), 2000);
            c.due("thrown", x.thrown(), -1);
        }
        // The throw of an object that is there makes none.
        c.ran(in("new E store 1 push 0 store 0 l : new Object pop inc 0 1 load 0 push 1999 lt l load 1 throw"), 1);
        // Not even a catch of its class gets one.
        c.ran(makes(2000, "a : null length pop" + GUARD), 3);
        ObjectMachine y = Checks.loaded(in("l : a : push 1 push 0 div pop b : back c : pop goto l catch a b c Error"));
        c.due("run", y.run(20000), 3);
        c.due("made(0)", y.made(0), 2000);
        c.due("steps", y.steps(), 2000 * 5 + 3);
    }

    private static void mostBodies(Checks c) {
        String down = "static down ( int ) int 1 { load 0 push 0 gt more push 0 give more : load 0 push 1 sub call Main.down push 1 add give }";
        // Main and 63 others.
        c.ran(Checks.main(0, "push 62 call Main.down write back", down, ""), 0, 62);
        ObjectMachine x = c.ran(Checks.main(0, "push 63 call Main.down write back", down, ""), 4);
        c.due("place", x.place(), 12);
        c.due("steps, with the call that was begun", x.steps(), 2 + 63 * 7);
        c.due("thrown", x.thrown(), -1);
        c.due("steps", c.ran(Checks.main(0, "call Main.main back"), 4).steps(), 64);
        // By send, and where a catch stands around it.
        ObjectMachine z = c.ran("class Main of Object { static main ( ) none 0 { new Main send Main.m back } "
            + "method m ( ) none 1 { a : load 0 send Main.m b : back c : pop back catch a b c Error } }", 4);
        c.due("steps", z.steps(), 2 + 63 * 2);
        // A send to null is an error first.
        c.due("thrown", c.ran("class Main of Object { static main ( ) none 0 { push 62 call Main.s back } "
            + "static s ( int ) none 1 { load 0 push 0 eq end load 0 push 1 sub call Main.s back end : null send Main.m back } "
            + "method m ( ) none 1 { back } }", 1).thrown(), 48);
        // At a time: bodies that have ended do not count.
        c.ran(Checks.main(1, "push 200 store 0 l : a : call Main.t b : m : call Main.g pop inc 0 -1 load 0 push 0 gt l back c : pop goto m catch a b c Error",
            "static t ( ) none 0 { call Main.u back } static u ( ) none 0 { null throw } static g ( ) int 0 { push 1 give }", ""), 0);
    }

    // ---- sites, refused calls, texts

    private static void sites(Checks c) {
        String lines = "read dup push 0 eq x dup push 1 eq y push 2 eq z new F throw x : pop push 5 array int pop "
            + "new E throw y : pop new E throw z : new F throw";
        // In the order of the text: F is 0, the array 1, then E, E, F.
        int[] due = {2, 3, 4, 0};
        for (int k = 0; k < 4; k++) {
            ObjectMachine x = Checks.loaded(in(lines));
            x.input(k);
            c.due("run", x.run(100), 1);
            c.due("thrown " + k, x.thrown(), due[k]);
        }
        // Through all bodies, in whatever order they run.
        ObjectMachine y = Checks.loaded("class K of Object { static s ( ) none 0 { new Object pop push 1 array K pop new Error throw } } "
            + Checks.main(0, "read push 0 eq a call K.s a : new Error throw", "", ""));
        c.due("run", y.run(100), 1);
        c.due("thrown", y.thrown(), 3);
        y.input(1);
        c.due("run", y.run(100), 1);
        c.due("thrown", y.thrown(), 2);
        c.due("sites", y.size(1), 4);
        // The last one is 47.
        ObjectMachine z = c.ran(Checks.main(0, Checks.times(47, "new Main pop ") + "new Error throw"), 1);
        c.due("thrown", z.thrown(), 47);
        // An error of a known class that new made has that site.
        c.due("thrown", ran(c, "new A pop new NullError throw", 1).thrown(), 1);
    }

    private static void errorSites(Checks c) {
        String[] raising = {"null length pop back", "push 1 array int push 1 aload pop back", "push -1 array int pop back", "push 1 push 0 div pop back",
            "new A cast B pop back", "push 1 array B cast Object[] push 0 new A astore back"};
        for (int k = 0; k < 6; k++) {
            c.due("thrown of " + raising[k], ran(c, raising[k], 1).thrown(), 48 + k);
            // Also when a handler throws it again.
            c.due("thrown again", ran(c, "a : " + raising[k] + " b : c : throw catch a b c Error", 1).thrown(), 48 + k);
        }
    }

    private static void refusedCalls(Checks c) {
        ObjectMachine x = Checks.loaded(in("read write read write null throw"));
        x.input(5);
        c.due("run", x.run(100), 1);
        x.input(6);
        x.feed('}' << 24, 0, 0, 0, 0);
        c.due("end(-1)", x.end(-1), false);
        c.due("end(21)", x.end(21), false);
        c.due("run(-1)", x.run(-1), -1);
        c.due("run(20001)", x.run(20001), -1);
        c.due("size(6)", x.size(6), -1);
        c.due("made(2)", x.made(2), -1);
        c.due("height(-1)", x.height(-1), -1);
        // The latest run and loading are the ones before.
        c.due("steps", x.steps(), 6);
        c.due("place", x.place(), MAIN + 5);
        c.due("thrown", x.thrown(), 48);
        c.due("made(0)", x.made(0), 1);
        c.due("written", x.written(), 2);
        c.due("out(0)", x.out(0), 5);
        c.due("faultAt", x.faultAt(), -1);
        // What was fed, and the input, are still there.
        c.due("feed", x.feed(0, 0, 0, 0, 0), 40);
        c.due("end(1)", x.end(1), true);
        c.due("load", x.load(), 2);
        c.due("run", x.run(100), 1);
        c.due("out(0)", x.out(0), 6);
        fullInput(c);
        fullFeed(c);
    }

    private static void fullInput(Checks c) {
        ObjectMachine x = Checks.loaded(in("read write back"));
        for (int k = 0; k < 256; k++) {
            x.input(k + 3);
        }
        c.due("input", x.input(99), false);
        c.due("run", x.run(100), 0);
        c.due("out(0)", x.out(0), 3);
        c.due("run", x.run(100), 0);
        c.due("out(0)", x.out(0), 0);
    }

    private static void fullFeed(Checks c) {
        ObjectMachine x = new ObjectMachine();
        for (int k = 0; k < 800; k++) {
            x.feed(0x20202020, 0x20202020, 0x20202020, 0x20202020, 0x20202020);
        }
        c.due("feed", x.feed('}' << 24, 0, 0, 0, 0), -1);
        c.due("end", x.end(16001), false);
        c.due("end", x.end(16000), true);
        c.due("load", x.load(), 3);
        c.due("faultAt", x.faultAt(), 0);
    }

    private static void bytesInAll(Checks c) {
        ObjectMachine x = new ObjectMachine();
        for (int n = 0; n < 3276; n++) {
            if (n % 800 == 0) {
                c.due("end", x.end(0), true);
            }
            c.due("feed", x.feed(0, 0, 0, 0, 0), 20 * (n % 800 + 1));
        }
        // 65520 are fed; twenty more would be 65540.
        c.due("feed", x.feed(0, 0, 0, 0, 0), -1);
        c.due("end", x.end(0), true);
        // Also what has become no text is used up.
        c.due("feed", x.feed(0, 0, 0, 0, 0), -1);
        c.due("load", x.load(), 3);
        c.due("feed", x.feed(0, 0, 0, 0, 0), -1);
    }
}
