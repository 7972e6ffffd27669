/** Promises 9 to 16: run, steps, place, thrown, made, written, out and strays. */
public final class RunTest {
    private static final Checks checks = new Checks();
    private static final int LEAST = Integer.MIN_VALUE;
    private static final int MOST = Integer.MAX_VALUE;
    private static final String CLASSES = "class A of Object { field f A field n int method m ( int ) int 2 { load 1 push 1 add give } } "
        + "class B of A { field g int[] method m ( int ) int 2 { load 1 push 100 add give } } class C of B { } "
        + "class E of Error { field n int } class F of E { } ";

    public static void main(String[] args) {
        refusals();
        arithmetic();
        comparisons();
        locals();
        objects();
        arrays();
        castsAndTypes();
        calls();
        sends();
        errors();
        errorsInOrder();
        catching();
        throwing();
        places();
        fuels();
        heapOfObjects();
        heapOfCells();
        heapOfErrors();
        depths();
        writing();
        runsAreFresh();
        programsAreFresh();
        checks.finish("RunTest");
    }

    private static String in(int locals, String lines) {
        return Checks.main(locals, lines, "static add ( int int ) int 3 { load 0 load 1 add give } "
            + "static set ( A int ) none 2 { load 0 load 1 put A.n back }", CLASSES);
    }

    private static ObjectMachine ran(int locals, String lines, int outcome, int... outs) {
        return checks.ran(in(locals, lines), outcome, outs);
    }

    /** The number of main's first instruction: the bodies of A and B lie before it, each with four. */
    private static final int MAIN = 8;

    private static void refusals() {
        ObjectMachine x = Checks.loaded(Checks.main(0, "push 5 write back"));
        for (int fuel : new int[] {-1, 20001, LEAST, MOST}) {
            checks.due("run(" + fuel + ")", x.run(fuel), -1);
            checks.due("steps", x.steps(), 0);
            checks.due("place", x.place(), -1);
        }
        checks.due("run(20000)", x.run(20000), 0);
        checks.due("run(20001)", x.run(20001), -1);
        checks.due("steps stay", x.steps(), 3);
        checks.due("place stays", x.place(), 2);
        checks.due("out stays", x.out(0), 5);
        checks.due("run(0)", x.run(0), 2);
        checks.due("steps", x.steps(), 0);
        checks.due("place", x.place(), 0);
        checks.due("written", x.written(), 0);
        checks.due("out", x.out(0), 0);
    }

    private static void calculated(String op, int a, int b, int due) {
        checks.ran(Checks.main(0, "push " + a + " push " + b + " " + op + " write back"), 0, due);
    }

    private static void arithmetic() {
        int[] some = {0, 1, -1, 2, 7, -7, 31, 32, 33, -33, 65535, MOST, LEAST, LEAST + 1, 123456789};
        for (int a : some) {
            for (int b : some) {
                long wide = (long) a * b;
                calculated("add", a, b, (int) ((long) a + b));
                calculated("sub", a, b, (int) ((long) a - b));
                calculated("mul", a, b, (int) wide);
                calculated("and", a, b, a & b);
                calculated("or", a, b, a | b);
                calculated("xor", a, b, a ^ b);
                calculated("shl", a, b, (int) ((long) a << (b & 31)));
                calculated("shr", a, b, (int) Math.floorDiv((long) a, 1L << (b & 31)));
                if (b != 0) {
                    calculated("div", a, b, (int) ((long) a / b));
                    calculated("rem", a, b, (int) ((long) a % b));
                }
            }
            checks.ran(Checks.main(0, "push " + a + " neg write back"), 0, (int) -(long) a);
        }
        calculated("div", LEAST, -1, LEAST);
        calculated("rem", LEAST, -1, 0);
        calculated("div", -7, 2, -3);
        calculated("rem", -7, 2, -1);
        calculated("shr", -1, 31, -1);
        calculated("shl", 1, 32, 1);
    }

    private static void comparisons() {
        int[] some = {0, 1, -1, MOST, LEAST};
        for (int a : some) {
            for (int b : some) {
                boolean[] due = {a == b, a != b, a < b, a <= b, a > b, a >= b};
                String[] ops = {"eq", "ne", "lt", "le", "gt", "ge"};
                for (int k = 0; k < 6; k++) {
                    checks.ran(Checks.main(0, "push " + a + " push " + b + " " + ops[k] + " y push 0 write back y : push 1 write back"),
                        0, due[k] ? 1 : 0);
                }
            }
        }
        String end = " y push 0 write back y : push 1 write back";
        ran(1, "null isnull" + end, 0, 1);
        ran(1, "null notnull" + end, 0, 0);
        ran(1, "new A isnull" + end, 0, 0);
        ran(1, "new A notnull" + end, 0, 1);
        ran(1, "null null same" + end, 0, 1);
        ran(1, "null null other" + end, 0, 0);
        ran(1, "new A dup same" + end, 0, 1);
        ran(1, "new A dup other" + end, 0, 0);
        ran(1, "new A new A same" + end, 0, 0);
        ran(1, "new A null other" + end, 0, 1);
        ran(1, "push 0 array int push 0 array int same" + end, 0, 0);
        // What lies under the values that are taken stays.
        for (String test : "null isnull,new A notnull,null null same,new A null other,push 1 push 1 eq".split(",")) {
            ran(1, "push 7 push 8 " + test + " y back y : write write back", 0, 8, 7);
        }
        ran(1, "push 7 push 8 goto y y : write write back", 0, 8, 7);
    }

    private static void locals() {
        ran(2, "push 5 store 1 inc 1 -7 load 1 write back", 0, -2);
        ran(2, "push 2147483647 store 1 inc 1 1 load 1 write back", 0, LEAST);
        ran(2, "push -2147483648 store 1 inc 1 -2147483648 load 1 write back", 0, 0);
        ran(2, "push 1 push 2 swap write write back", 0, 1, 2);
        ran(2, "push 1 push 2 dup write pop write back", 0, 2, 1);
        ran(2, "push 1 new A swap write get A.n write back", 0, 1, 0);
        ran(2, "new A push 1 swap get A.n write write back", 0, 0, 1);
        ran(12, "push 1 store 0 push 2 store 11 load 0 write load 11 write back", 0, 1, 2);
        ran(2, "push 1 store 0 null store 0 new A store 0 load 0 get A.n write back", 0, 0);
    }

    private static void objects() {
        ObjectMachine x = ran(2, "new C store 0 load 0 get A.n write load 0 get C.f isnull a push 9 write a : load 0 push 7 put A.n "
            + "load 0 get B.n write load 0 load 0 put A.f load 0 get A.f get A.f get A.n write "
            + "load 0 push 3 array int put B.g load 0 get C.g length write new A get A.n write back", 0, 0, 7, 7, 3, 0);
        checks.due("made(0)", x.made(0), 3);
        checks.due("made(1)", x.made(1), 3 + 3 + 2);
        ran(3, "new A store 0 load 0 store 1 load 1 push 4 put A.n load 0 get A.n write new A store 2 load 2 get A.n write back", 0, 4, 0);
        checks.due("made of a class without fields", ran(0, "new Main pop new NullError pop back", 0).made(1), 0);
    }

    private static void arrays() {
        ran(2, "push 3 array int store 0 load 0 push 2 push 8 astore load 0 push 2 aload write load 0 push 0 aload write "
            + "load 0 length write push 0 array A length write back", 0, 8, 0, 3, 0);
        ran(2, "push 2 array A store 0 load 0 push 1 new B astore load 0 push 1 aload get A.n write "
            + "load 0 push 0 aload isnull a push 5 write a : load 0 push 1 null astore load 0 push 1 aload isnull b push 6 write b : back", 0, 0);
        ObjectMachine x = ran(0, "push 12000 array int length write push 0 array int length write back", 0, 12000, 0);
        checks.due("made(0)", x.made(0), 2);
        checks.due("made(1)", x.made(1), 12000);
    }

    private static void castsAndTypes() {
        String[] made = {"null", "new Object", "new A", "new B", "new C", "push 1 array A", "push 1 array B", "push 1 array int",
            "push 1 array Object"};
        String[] types = {"Object", "A", "B", "A[]", "B[]", "Object[]", "int[]", "Error"};
        String[] due = {"00000000", "10000000", "11000000", "11100000", "11100000", "10010100", "10011100", "10000010", "10000100"};
        for (int m = 0; m < made.length; m++) {
            for (int t = 0; t < types.length; t++) {
                int is = due[m].charAt(t) - '0';
                ran(0, made[m] + " is " + types[t] + " write back", 0, is);
                ObjectMachine x = Checks.loaded(in(0, made[m] + " cast " + types[t] + " pop back"));
                checks.due(made[m] + " cast " + types[t], x.run(100), is == 1 || m == 0 ? 0 : 1);
                checks.due("thrown", x.thrown(), is == 1 || m == 0 ? -1 : 52);
            }
        }
        ran(0, "new B cast A push 1 send A.m write back", 0, 101);
    }

    private static void calls() {
        ran(1, "push 30 push 12 call Main.add write new A store 0 load 0 push 5 call Main.set load 0 get A.n write back", 0, 42, 5);
        ran(1, "push 9 push 30 push 12 call Main.add write write back", 0, 42, 9);
        checks.ran(Checks.main(0, "push 10 call Main.fib write back",
            "static fib ( int ) int 1 { load 0 push 2 ge more load 0 give more : load 0 push 1 sub call Main.fib "
            + "load 0 push 2 sub call Main.fib add give }", ""), 0, 55);
        // What lies under the given value in the body's stack is gone with it.
        checks.ran(Checks.main(0, "push 1 call Main.s write write back", "static s ( ) int 0 { push 7 push 8 push 9 give }", ""), 0, 9, 1);
        checks.ran(Checks.main(0, "push 1 call Main.s write back", "static s ( ) none 0 { push 7 push 8 back }", ""), 0, 1);
        // The locals of a call are its own, and new each time.
        checks.ran(Checks.main(1, "push 5 store 0 push 1 call Main.s push 2 call Main.s load 0 write back",
            "static s ( int ) none 2 { load 0 write push 3 store 0 back }", ""), 0, 1, 2, 5);
        checks.ran(Checks.main(0, "push 1 push 2 push 3 push 4 push 5 push 6 push 7 push 8 call Main.s write back",
            "static s ( int int int int int int int int ) int 8 { load 0 load 7 sub give }", ""), 0, -7);
        checks.ran(Checks.main(0, "call B.s back", "", "class A of Object { static s ( ) none 0 { push 3 write back } } class B of A { } "), 0, 3);
    }

    private static void sends() {
        ran(0, "new A push 1 send A.m write new B push 1 send A.m write new C push 1 send A.m write new C push 1 send C.m write back",
            0, 2, 101, 101, 101);
        String three = "class A of Object { method m ( ) int 1 { push 1 give } method n ( ) int 1 { load 0 send A.m give } } "
            + "class B of A { } class C of B { method m ( ) int 1 { push 3 give } } class D of C { method n ( ) int 1 { push 4 give } } "
            + "class X of Object { method m ( ) int 1 { push 9 give } } ";
        checks.ran(Checks.main(0, "new A send A.n write new B send A.n write new C send B.n write new D send A.n write "
            + "new D send B.m write new X send X.m write back", "", three), 0, 1, 1, 3, 4, 3, 9);
        // A method of Main's own, and main called again by itself.
        checks.ran("class Main of Object { field n int static main ( ) none 1 { new Main send Main.go back } "
            + "method go ( ) none 1 { load 0 load 0 get Main.n push 1 add put Main.n load 0 get Main.n dup write push 3 ge end "
            + "load 0 send Main.go end : back } }", 0, 1, 2, 3);
    }

    private static void errorOf(String lines, int site, int steps) {
        ObjectMachine x = Checks.loaded(in(1, lines + " back"));
        checks.due("run of " + lines, x.run(1000), 1);
        checks.due("thrown of " + lines, x.thrown(), site);
        checks.due("steps of " + lines, x.steps(), steps);
        checks.due("place of " + lines, x.place(), MAIN + steps - 1);
        String name = "NullError IndexError SizeError DivideError CastError StoreError".split(" ")[site - 48];
        ran(1, "a : " + lines + " b : back c : is " + name + " write back catch a b c Error", 0, 1);
        ObjectMachine y = Checks.loaded(in(1, "a : " + lines + " b : back c : pop push 1 write back catch a b c " + name));
        checks.due("run of caught " + lines, y.run(1000), 0);
        checks.due("written of caught " + lines, y.written(), 1);
        checks.due("made equal", y.made(0), x.made(0));
    }

    private static void errors() {
        errorOf("null length pop", 48, 2);
        errorOf("null push 0 aload pop", 48, 3);
        errorOf("null push 0 push 0 astore", 48, 4);
        errorOf("null get A.n pop", 48, 2);
        errorOf("null push 1 put A.n", 48, 3);
        errorOf("null push 1 send A.m pop", 48, 3);
        errorOf("push 2 array int push 2 aload pop", 49, 4);
        errorOf("push 2 array int push -1 aload pop", 49, 4);
        errorOf("push 2 array A push 2 null astore", 49, 5);
        errorOf("push 2 array A push -2147483648 null astore", 49, 5);
        errorOf("push 0 array int push 0 aload pop", 49, 4);
        errorOf("push 2 array int push 2147483647 aload pop", 49, 4);
        errorOf("push -1 array int pop", 50, 2);
        errorOf("push -2147483648 array A pop", 50, 2);
        errorOf("push 1 push 0 div pop", 51, 3);
        errorOf("push 1 push 0 rem pop", 51, 3);
        errorOf("push -2147483648 push 0 div pop", 51, 3);
        errorOf("new A cast B pop", 52, 2);
        errorOf("push 1 array A cast B[] pop", 52, 3);
        errorOf("push 1 array int cast Object[] pop", 52, 3);
        errorOf("push 1 array B cast Object[] push 0 new A astore", 53, 6);
        errorOf("push 1 array A cast Object[] push 0 push 1 array int astore", 53, 7);
        // throw of null raises a NullError.
        ObjectMachine x = ran(0, "null throw", 1);
        checks.due("thrown", x.thrown(), 48);
        checks.due("made(0)", x.made(0), 1);
    }

    private static void errorsInOrder() {
        errorOf("null push -1 new A astore", 48, 4);
        errorOf("push 1 array B cast Object[] push 1 new A astore", 49, 6);
        ran(0, "push 1 array B cast Object[] push 0 new C astore push 1 array B cast A[] push 0 null astore back", 0);
    }

    private static void catching() {
        // The first catch in the order of the text counts, also where it stands before its labels.
        ran(0, "catch a b d Error a : null length write b : back c : pop push 1 write back d : pop push 2 write back catch a b c NullError", 0, 2);
        ran(0, "catch a b c NullError a : null length write b : back c : pop push 1 write back d : pop push 2 write back catch a b d Error", 0, 1);
        ran(0, "catch a b c CastError a : null length write b : back c : pop push 1 write back d : pop push 2 write back catch a b d Error", 0, 2);
        // FROM is in, TO is out.
        ran(0, "push 1 push 0 a : div b : write back c : pop push 7 write back catch a b c Error", 0, 7);
        ObjectMachine x = ran(0, "push 1 a : push 0 b : div write back c : pop push 7 write back catch a b c Error", 1);
        checks.due("thrown", x.thrown(), 51);
        // The stack becomes the object alone, and the locals stay.
        ran(1, "push 4 store 0 a : push 1 push 2 push 3 push 0 div b : back c : pop load 0 write push 1 push 2 push 3 push 4 push 5 push 6 "
            + "push 7 push 8 add write back catch a b c Error", 0, 4, 15);
        // A handler is not guarded by its own catch, but may lie in it.
        ran(1, "push 3 store 0 goto a c : pop load 0 write inc 0 -1 load 0 push 0 eq e a : null length write b : e : back catch a b c Error", 0, 3, 2, 1);
        // Through bodies that do not catch it.
        checks.ran(Checks.main(1, "push 9 a : call Main.f write b : write back c : is E write back catch a b c Error",
            "static f ( ) int 0 { push 1 call Main.g add give } static g ( ) int 0 { call Main.h give } "
            + "static h ( ) int 0 { a : new F throw b : c : pop push 5 give catch a b c NullError }", CLASSES), 0, 1);
        // Caught in the middle, by the call that threw it.
        checks.ran(Checks.main(1, "a : call Main.f write back c : pop push -1 write back catch a c c Error",
            "static f ( ) int 0 { push 1 a : call Main.h b : add give c : pop push 77 give catch a b c E } "
            + "static h ( ) int 0 { new F throw }", CLASSES), 0, 77);
        // A caught object is the thrown one, with its fields.
        ran(1, "a : new F dup push 6 put E.n throw b : c : cast E get E.n write back catch a b c Error", 0, 6);
        // Class of the catch: the object's or above it.
        ran(0, "a : new E throw b : c : pop push 1 write back d : pop push 2 write back catch a b c F catch a b d E", 0, 2);
        ran(0, "a : new F throw b : c : pop push 1 write back d : pop push 2 write back catch a b c F catch a b d E", 0, 1);
    }

    private static void throwing() {
        ObjectMachine x = ran(1, "new A pop new E throw", 1);
        checks.due("thrown", x.thrown(), 1);
        checks.due("place", x.place(), MAIN + 3);
        checks.due("made", x.made(0), 2);
        checks.due("made", x.made(1), 3);
        ObjectMachine y = ran(1, "new F store 0 new E pop load 0 throw", 1);
        checks.due("thrown", y.thrown(), 0);
        // An object of a known class that new made has the site of that new.
        ObjectMachine z = ran(1, "push 1 array int pop new NullError throw", 1);
        checks.due("thrown", z.thrown(), 1);
        // Thrown again by its handler: that is where it left from.
        ObjectMachine w = ran(1, "a : null length write b : back c : throw catch a b c Error", 1);
        checks.due("thrown", w.thrown(), 48);
        checks.due("place", w.place(), MAIN + 4);
        checks.due("steps", w.steps(), 3);
        checks.due("made", w.made(0), 1);
        // The sites are numbered through all bodies.
        ObjectMachine v = Checks.loaded("class A of Object { static s ( ) none 0 { new Object pop push 1 array A pop back } } "
            + Checks.main(0, "new Error throw"));
        checks.due("run", v.run(10), 1);
        checks.due("thrown", v.thrown(), 2);
        checks.due("a later run without one", v.run(0), 2);
        checks.due("thrown", v.thrown(), -1);
    }

    private static void places() {
        ObjectMachine x = ran(0, "read read eq a back a : push 1 write back", 0, 1);
        checks.due("place", x.place(), MAIN + 6);
        checks.due("steps", x.steps(), 6);
        // Thrown in a body, through another one, out of main: the place is in the first.
        ObjectMachine y = Checks.loaded(Checks.main(0, "push 1 call Main.f back",
            "static f ( int ) none 1 { load 0 call Main.g back } static g ( int ) none 1 { load 0 push 0 div write back }", ""));
        checks.due("run", y.run(100), 1);
        checks.due("place", y.place(), 8);
        checks.due("steps", y.steps(), 7);
        // The next instruction, when the fuel ends: behind a jump, a call, a return, a thrown object.
        int[] due = {0, 1, 3, 4, 7, 8, 2};
        ObjectMachine z = Checks.loaded(Checks.main(0, "push 1 call Main.f back",
            "static f ( int ) none 1 { push 0 goto g pop back g : pop back }", ""));
        for (int fuel = 0; fuel < due.length; fuel++) {
            checks.due("run", z.run(fuel), 2);
            checks.due("place with fuel " + fuel, z.place(), due[fuel]);
            checks.due("steps with fuel " + fuel, z.steps(), fuel);
        }
        checks.due("run", z.run(7), 0);
        ObjectMachine w = Checks.loaded(Checks.main(0, "a : null throw b : c : pop back catch a b c Error"));
        checks.due("run", w.run(2), 2);
        checks.due("place behind a thrown object", w.place(), 2);
        // Calls of main by itself end no run.
        ObjectMachine v = Checks.loaded(Checks.main(0, "read push 0 eq a call Main.main push 5 write a : back"));
        v.input(1);
        v.input(1);
        checks.due("run", v.run(100), 0);
        checks.due("written", v.written(), 2);
    }

    private static void fuels() {
        String text = Checks.main(0, "a : push 1 pop goto a");
        ObjectMachine x = Checks.loaded(text);
        for (int fuel : new int[] {0, 1, 2, 3, 4, 100, 19999, 20000}) {
            checks.due("run", x.run(fuel), 2);
            checks.due("steps", x.steps(), fuel);
            checks.due("place", x.place(), fuel % 3);
        }
        ObjectMachine y = Checks.loaded(Checks.main(0, "push 1 write back"));
        checks.due("run(2)", y.run(2), 2);
        checks.due("written", y.written(), 1);
        checks.due("run(3)", y.run(3), 0);
        checks.due("steps", y.steps(), 3);
        ObjectMachine z = Checks.loaded(Checks.main(0, "push 1 push 0 div write back"));
        checks.due("run(2)", z.run(2), 2);
        checks.due("run(3)", z.run(3), 1);
        checks.due("steps", z.steps(), 3);
    }

    private static void heapOfObjects() {
        String text = Checks.main(1, "push 0 store 0 a : new Main pop inc 0 1 goto a");
        ObjectMachine x = Checks.loaded(text);
        checks.due("run", x.run(20000), 3);
        checks.due("made(0)", x.made(0), 2000);
        checks.due("made(1)", x.made(1), 0);
        checks.due("steps", x.steps(), 2 + 4 * 2000 + 1);
        checks.due("place", x.place(), 2);
        checks.due("thrown", x.thrown(), -1);
        ObjectMachine y = Checks.loaded(Checks.main(1, "push 0 store 0 a : push 0 array int pop inc 0 1 load 0 push 2000 lt a null length pop back"));
        checks.due("run", y.run(20000), 3);
        checks.due("made(0)", y.made(0), 2000);
        checks.due("place", y.place(), 10);
    }

    private static void heapOfCells() {
        ObjectMachine x = ran(0, "push 12000 array int pop new Main pop push 0 array A pop null pop new A pop back", 3);
        checks.due("made(0)", x.made(0), 3);
        checks.due("made(1)", x.made(1), 12000);
        checks.due("place", x.place(), MAIN + 10);
        checks.due("steps", x.steps(), 11);
        for (int count : new int[] {12001, 100000, MOST}) {
            ObjectMachine y = ran(0, "push " + count + " array int pop back", 3);
            checks.due("made(0)", y.made(0), 0);
            checks.due("made(1)", y.made(1), 0);
            checks.due("place", y.place(), MAIN + 1);
            checks.due("steps", y.steps(), 2);
        }
        ObjectMachine z = ran(0, "push 11998 array int pop new A pop push 0 array int pop push 1 array int pop back", 3);
        checks.due("made(0)", z.made(0), 3);
        checks.due("made(1)", z.made(1), 12000);
        ran(0, "push 11999 array int pop new A pop back", 3);
        ran(0, "push 6000 array A pop push 6000 array A pop back", 0);
        // No catch takes the end of a heap.
        ran(0, "a : push 12001 array int pop b : back c : pop back catch a b c Error", 3);
    }

    private static void heapOfErrors() {
        // Errors are objects too: the 2001st is one too many.
        ObjectMachine x = Checks.loaded(Checks.main(0, "c0 : a : push 1 push 0 div pop b : back c : pop goto c0 catch a b c Error"));
        checks.due("run", x.run(20000), 3);
        checks.due("made(0)", x.made(0), 2000);
        checks.due("place", x.place(), 2);
        checks.due("steps", x.steps(), 2000 * 5 + 3);
        // Cells used up leave room for errors, which have none.
        ObjectMachine y = Checks.loaded(Checks.main(0, "push 12000 array int pop null length pop back"));
        checks.due("run", y.run(100), 1);
        checks.due("thrown", y.thrown(), 48);
    }

    private static void depths() {
        String down = "static down ( int ) int 1 { load 0 push 0 gt more push 0 give more : load 0 push 1 sub call Main.down push 1 add give }";
        checks.ran(Checks.main(0, "push 62 call Main.down write back", down, ""), 0, 62);
        ObjectMachine x = checks.ran(Checks.main(0, "push 63 call Main.down write back", down, ""), 4);
        checks.due("place", x.place(), 12);
        checks.due("steps", x.steps(), 2 + 63 * 7);
        checks.due("thrown", x.thrown(), -1);
        ObjectMachine y = checks.ran(Checks.main(0, "call Main.main back"), 4);
        checks.due("steps", y.steps(), 64);
        checks.due("place", y.place(), 0);
        ObjectMachine z = checks.ran("class Main of Object { static main ( ) none 0 { new Main send Main.m back } "
            + "method m ( ) none 1 { a : load 0 send Main.m b : back c : pop back catch a b c Error } }", 4);
        checks.due("steps", z.steps(), 2 + 63 * 2);
        checks.due("place", z.place(), 4);
        // A send to null raises its error before the depth is looked at.
        ObjectMachine w = checks.ran("class Main of Object { static main ( ) none 0 { push 62 call Main.s back } "
            + "static s ( int ) none 1 { load 0 push 0 eq end load 0 push 1 sub call Main.s back end : null send Main.m back } "
            + "method m ( ) none 1 { back } }", 1);
        checks.due("thrown", w.thrown(), 48);
        // Bodies that have ended, by giving, going back or throwing, no longer count.
        checks.ran(Checks.main(1, "push 200 store 0 l : a : call Main.t b : m : call Main.g pop inc 0 -1 load 0 push 0 gt l back "
            + "c : pop goto m catch a b c Error", "static t ( ) none 0 { call Main.u back } static u ( ) none 0 { null throw } "
            + "static g ( ) int 0 { push 1 give }", ""), 0);
    }

    private static void writing() {
        ObjectMachine x = Checks.loaded(Checks.main(1, "push 0 store 0 a : load 0 write inc 0 3 goto a"));
        checks.due("run", x.run(20000), 2);
        checks.due("written", x.written(), 5000);
        for (int k = 0; k < 300; k++) {
            checks.due("out(" + k + ")", x.out(k), k < 256 ? 3 * k : 0);
        }
        checks.due("out(-1)", x.out(-1), 0);
        checks.due("out of the most", x.out(MOST), 0);
        checks.due("out of the least", x.out(LEAST), 0);
        checks.due("run", x.run(2 + 4 * 5), 2);
        checks.due("written", x.written(), 5);
        checks.due("out(4)", x.out(4), 12);
        checks.due("out(5)", x.out(5), 0);
        checks.due("made(2)", x.made(2), -1);
        checks.due("made(-1)", x.made(-1), -1);
    }

    private static void programsAreFresh() {
        // Programs one behind the other on one object, each of them twice, as if each were the first.
        String guard = "a : null length pop b : back c : pop push 1 write back catch a b c Error ";
        String[] texts = {
            Checks.main(0, "call Main.s back", "static s ( ) none 0 { " + guard + "} static t ( ) none 0 { back }", ""),
            Checks.main(0, guard + "catch a b c NullError catch a b c CastError", "static s ( ) none 0 { " + guard + "}", ""),
            Checks.main(0, "back", "", ""),
            Checks.main(0, "read read eq a new C goto b a : new D b : get A.n write back", "",
                "class A of Object { field n int } class B of A { } class C of B { } class D of A { } "),
            Checks.main(0, "read read eq a new C goto b a : new D b : get B.n write back", "",
                "class A of Object { } class B of A { field n int } class C of B { } class D of B { } "),
            Checks.main(0, "new C send A.m write new B send A.m write back", "",
                "class A of Object { method m ( ) int 1 { push 1 give } } class B of A { } "
                + "class C of A { method m ( ) int 1 { push 3 give } } "),
            Checks.main(0, "new C send A.m write new B send A.m write back", "",
                "class A of Object { method m ( ) int 1 { push 1 give } } class B of A { method m ( ) int 1 { push 2 give } } "
                + "class C of B { } "),
        };
        int[][] outs = {{1}, {1}, {}, {0}, {0}, {3, 1}, {2, 2}};
        ObjectMachine x = new ObjectMachine();
        for (int k = 0; k < 4 * texts.length; k++) {
            // Steps of three and of one, so that each follows several others in the same rows.
            int at = k < 2 * texts.length ? 3 * k % texts.length : k % texts.length;
            Checks.give(x, texts[at]);
            checks.due("load " + at, x.load(), 0);
            checks.due("run " + at, x.run(100), 0);
            checks.due("written " + at, x.written(), outs[at].length);
            for (int n = 0; n < outs[at].length; n++) {
                checks.due("out " + at, x.out(n), outs[at][n]);
            }
        }
        checks.due("strays", x.strays(), 0);
    }

    private static void runsAreFresh() {
        // Cells that an earlier run has used are 0 and null again.
        ObjectMachine x = Checks.loaded(in(2, "push 50 array int store 0 load 0 read aload write load 0 push 7 push 99 astore "
            + "new A store 1 load 1 get A.n write load 1 push 5 put A.n load 1 get A.f isnull a push 77 write a : load 1 load 1 put A.f back"));
        for (int k = 0; k < 3; k++) {
            x.input(7);
            checks.due("run", x.run(1000), 0);
            checks.due("written", x.written(), 2);
            checks.due("out(0)", x.out(0), 0);
            checks.due("out(1)", x.out(1), 0);
            checks.due("made(0)", x.made(0), 2);
            checks.due("made(1)", x.made(1), 52);
            checks.due("strays", x.strays(), 0);
        }
        // After runs that ended deep in calls.
        ObjectMachine y = Checks.loaded(Checks.main(0, "read push 0 eq a call Main.main a : back"));
        for (int k = 0; k < 100; k++) {
            y.input(1);
        }
        checks.due("run", y.run(1000), 4);
        checks.due("run", y.run(1000), 0);
        checks.due("steps", y.steps(), 4);
        checks.due("strays", y.strays(), 0);
    }
}
