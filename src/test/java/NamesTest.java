/** Promise 4, the fault 3: names, in the walks of the document; and promise 6, the size of a program. */
public final class NamesTest {
    private static final Checks checks = new Checks();
    private static final String MAIN = Checks.main(0, "back");

    public static void main(String[] args) {
        classes();
        fields();
        bodies();
        replacing();
        heads();
        labels();
        catches();
        limitsOfLines();
        operands();
        references();
        ends();
        mains();
        orderOfWalks();
        sizes();
        checks.finish("NamesTest");
    }

    private static void classes() {
        for (String known : "Object Error NullError IndexError SizeError DivideError CastError StoreError".split(" ")) {
            checks.fault(3, "class @" + known + " of Object { } " + MAIN);
            checks.right("class A of " + known + " { } " + MAIN);
        }
        checks.fault(3, "class A of Object { } class @A of Object { } " + MAIN);
        checks.fault(3, "class A of @A { } " + MAIN);
        checks.fault(3, "class A of @B { } class B of Object { } " + MAIN);
        checks.right("class B of Object { } class A of B { } " + MAIN);
        checks.right(Checks.times(23, "class A# of Object { } ") + MAIN);
        checks.fault(3, Checks.times(24, "class A# of Object { } ") + "class @Main of Nothing { static main ( ) none 0 { back } }");
        checks.fault(3, "class A of Object { } class @A of Nothing { }");
        checks.right("class Objec of Object { } class Objects of Objec { } class NullErro of Objects { } " + MAIN);
        // A chain of all classes.
        checks.right("class A0 of StoreError { } " + chain(22) + MAIN);
    }

    private static String chain(int n) {
        StringBuilder all = new StringBuilder();
        for (int k = 1; k <= n; k++) {
            all.append("class A" + k + " of A" + (k - 1) + " { } ");
        }
        return all.toString();
    }

    private static void fields() {
        checks.fault(3, "class A of Object { field a int field @a A } " + MAIN);
        checks.fault(3, "class A of Object { field a int } class B of A { } class C of B { field @a int } " + MAIN);
        checks.right("class A of Object { field a int } class B of Object { field a int } " + MAIN);
        checks.right("class A of Object { field a int static a ( ) none 0 { back } } " + MAIN);
        checks.fault(3, "class A of Object { field a @Nothing } " + MAIN);
        checks.fault(3, "class A of Object { field a @Nothing[] } " + MAIN);
        checks.right("class A of Object { field a B field b B[] field c Main[] } class B of A { } " + MAIN);
        checks.right("class A of Object { " + Checks.times(48, "field a# int ") + " } " + MAIN);
        checks.fault(3, "class A of Object { " + Checks.times(48, "field a# int ") + " field @b int } " + MAIN);
        checks.fault(3, "class A of Object { " + Checks.times(30, "field a# int ") + "} class B of Object { "
            + Checks.times(18, "field a# int ") + "field @b Nothing } " + MAIN);
    }

    private static void bodies() {
        String s = "static a ( ) none 0 { back } ";
        String m = "method a ( ) none 1 { back } ";
        checks.fault(3, "class A of Object { " + s + s.replace("a (", "@a (") + "} " + MAIN);
        checks.fault(3, "class A of Object { " + s + m.replace("a (", "@a (") + "} " + MAIN);
        checks.fault(3, "class A of Object { " + m + s.replace("a (", "@a (") + "} " + MAIN);
        checks.fault(3, "class A of Object { " + m + m.replace("a (", "@a (") + "} " + MAIN);
        checks.right("class A of Object { " + m + "} class B of Object { " + s + "} " + MAIN);
        checks.right("class A of Object { " + Checks.times(47, "static a# ( ) none 0 { back } ") + "} " + MAIN);
        checks.fault(3, "class A of Object { " + Checks.times(48, "method a# ( ) none 1 { back } ")
            + "} " + MAIN.replace("main (", "@main ("));
        checks.fault(3, "class A of Object { " + Checks.times(48, "method a# ( ) none 1 { back } ")
            + "static @b ( Nothing ) none 0 { back } } " + MAIN);
    }

    private static void replacing() {
        String top = "class A of Object { method a ( int A ) A[] 3 { null give } static s ( ) none 0 { back } } ";
        String same = "class B of A { method a ( int A ) A[] 3 { null give } } ";
        checks.right(top + same + MAIN);
        checks.right(top + "class B of A { } class C of B { method a ( int A ) A[] 3 { null give } } " + MAIN);
        checks.fault(3, top + "class B of A { static @a ( int A ) A[] 3 { null give } } " + MAIN);
        checks.fault(3, top + "class B of A { method @a ( A int ) A[] 3 { null give } } " + MAIN);
        checks.fault(3, top + "class B of A { method @a ( int ) A[] 3 { null give } } " + MAIN);
        checks.fault(3, top + "class B of A { method @a ( int A A ) A[] 4 { null give } } " + MAIN);
        checks.fault(3, top + "class B of A { method @a ( int B ) A[] 3 { null give } } " + MAIN);
        checks.fault(3, top + "class B of A { method @a ( int A ) B[] 3 { null give } } " + MAIN);
        checks.fault(3, top + "class B of A { method @a ( int A ) none 3 { back } } " + MAIN);
        checks.fault(3, top + "class B of A { method @a ( int Nothing ) A[] 3 { null give } } " + MAIN);
        checks.fault(3, top + "class B of A { static @s ( ) none 0 { back } } " + MAIN);
        checks.fault(3, top + "class B of A { method @s ( ) none 1 { back } } " + MAIN);
        checks.fault(3, top + same + "class C of B { method @a ( int A ) A 3 { null give } } " + MAIN);
        checks.fault(3, top + "class Main of A { static main ( ) none 0 { back } static @a ( ) none 0 { back } }");
    }

    private static void heads() {
        checks.fault(3, Checks.main(0, "back", "static a ( int @No No ) No 0 { back }", ""));
        checks.fault(3, Checks.main(0, "back", "static a ( int Main @No[] ) No 0 { back }", ""));
        checks.fault(3, Checks.main(0, "back", "static a ( int Main ) @No 0 { back }", ""));
        checks.fault(3, Checks.main(0, "back", "static a ( int Main ) @No[] 0 { back }", ""));
        checks.fault(3, Checks.main(0, "back", "static a ( int Main ) int @1 { push 0 give }", ""));
        checks.right(Checks.main(0, "back", "static a ( int Main ) int 2 { push 0 give }", ""));
        checks.fault(3, Checks.main(0, "back", "method a ( int Main ) int @2 { push 0 give }", ""));
        checks.right(Checks.main(0, "back", "method a ( int Main ) int 3 { push 0 give }", ""));
        checks.fault(3, Checks.main(0, "back", "static a ( ) none @-1 { back }", ""));
        checks.fault(3, Checks.main(0, "back", "static a ( ) none @13 { back }", ""));
        checks.fault(3, Checks.main(0, "back", "static a ( ) none @-2147483648 { back }", ""));
        checks.right(Checks.main(0, "back", "static a ( ) none 12 { back }", ""));
        checks.right(Checks.main(0, "back", "static a ( " + Checks.times(12, "int ") + ") none 12 { back }", ""));
        checks.fault(3, Checks.main(0, "back", "static a ( " + Checks.times(13, "int ") + ") none @12 { back }", ""));
        checks.fault(3, Checks.main(0, "back", "static a ( " + Checks.times(13, "int ") + ") none @13 { back }", ""));
        checks.fault(3, Checks.main(0, "back", "static a ( " + Checks.times(50, "int ") + "@No ) none 12 { back }", ""));
        checks.right(Checks.main(0, "back", "method a ( " + Checks.times(11, "int ") + ") none 12 { back }", ""));
        checks.fault(3, Checks.main(0, "back", "method a ( " + Checks.times(12, "int ") + ") none @12 { back }", ""));
    }

    private static void labels() {
        checks.fault(3, Checks.main(0, "a : b : @a : back"));
        checks.fault(3, Checks.main(0, "a : back @a :"));
        checks.right(Checks.main(0, "a : back", "static s ( ) none 0 { a : goto a }", ""));
        checks.right(Checks.main(0, "goto a a : back b :"));
        checks.fault(3, Checks.main(0, "goto @b a : back b :"));
        checks.fault(3, Checks.main(0, "goto @b back", "static s ( ) none 0 { b : back }", ""));
        checks.fault(3, Checks.main(0, "back", "static s ( ) none 0 { goto @b } static t ( ) none 0 { b : back }", ""));
        for (String op : "goto eq ne lt le gt ge isnull notnull same other".split(" ")) {
            checks.fault(3, Checks.main(0, "a : " + op + " @b back"));
            checks.fault(3, Checks.main(0, "a : " + op + " @b back b :"));
        }
        checks.right(Checks.main(0, Checks.times(300, "a# : ") + "goto a17 " + Checks.times(300, "b# : ") + "back"));
    }

    private static void catches() {
        checks.right(Checks.main(0, "catch a b c Error a : push 0 write b : back c : pop back"));
        checks.right(Checks.main(0, "a : push 0 write b : back c : pop back catch a b c Error"));
        checks.right(Checks.main(0, "a : push 0 write goto d c : pop d : back b : catch a b c NullError"));
        checks.fault(3, Checks.main(0, "catch @x b c Error a : back b : c : back"));
        checks.fault(3, Checks.main(0, "catch a @x c Error a : back b : c : back"));
        checks.fault(3, Checks.main(0, "catch a b @x Error a : back b : c : back"));
        checks.fault(3, Checks.main(0, "catch a b c @X a : back b : c : back"));
        checks.fault(3, Checks.main(0, "catch a b c @Object a : back b : c : back"));
        checks.fault(3, Checks.main(0, "catch a b c @Main a : back b : c : back"));
        checks.right(Checks.main(0, "catch a b c Mine a : back b : c : back", "", "class Mine of CastError { }"));
        checks.fault(3, Checks.main(0, "catch a @a c Error a : back b : c : back"));
        checks.fault(3, Checks.main(0, "catch a @b c Error a : b : back c : back"));
        checks.fault(3, Checks.main(0, "catch b @a c Error a : back b : c : back"));
        checks.fault(3, Checks.main(0, "catch b @c a Error a : back b : c :"));
        checks.fault(3, Checks.main(0, "catch a b @b Error a : back b :"));
        checks.fault(3, Checks.main(0, "a : back", "static s ( ) none 0 { catch @a b c Error back }", ""));
        // A catch whose labels lie behind one another with an instruction between, in another order of the text.
        checks.fault(3, Checks.main(0, "a : b : push 0 pop catch a @b c Error c : back"));
        String many = "a : push 0 write b : back c : pop back ";
        checks.right(Checks.main(0, many + Checks.times(64, "catch a b c Error ")));
        checks.fault(3, Checks.main(0, many + Checks.times(64, "catch a b c Error ") + "@catch x x x X"));
        checks.fault(3, Checks.main(0, many + Checks.times(63, "catch a b c Error "), "static s ( ) none 0 { " + many
            + "catch a b c Error @catch a b c Error }", ""));
    }

    private static void limitsOfLines() {
        checks.right(Checks.main(0, Checks.times(511, "read pop ") + "goto a a : back"));
        checks.fault(3, Checks.main(0, Checks.times(512, "read pop ") + "@back"));
        checks.fault(3, Checks.main(0, Checks.times(500, "read pop ") + "back", "static s ( ) none 0 { " + Checks.times(11, "read pop ")
            + "goto a a : @load 50 back }", ""));
        checks.right(Checks.main(0, Checks.times(24, "new Main pop push 0 array int pop ") + "back"));
        checks.fault(3, Checks.main(0, Checks.times(24, "new Main pop push 0 array int pop ") + "@new Main pop back"));
        checks.fault(3, Checks.main(0, Checks.times(24, "new Main pop push 0 array int pop ") + "push 0 @array No pop back"));
        checks.fault(3, Checks.main(0, Checks.times(24, "new Main pop ") + "back", "static s ( ) none 0 { "
            + Checks.times(24, "push 0 array int pop ") + "read pop @new No back }", ""));
    }

    private static void operands() {
        for (String op : "load store inc".split(" ")) {
            String more = op.equals("inc") ? " 1" : "";
            checks.fault(3, Checks.main(0, op + " @0" + more + " back"));
            checks.fault(3, Checks.main(3, op + " @3" + more + " back"));
            checks.fault(3, Checks.main(3, op + " @-1" + more + " back"));
            checks.fault(3, Checks.main(12, op + " @12" + more + " back"));
            checks.right(Checks.main(12, "push 0 store 11 " + (op.equals("store") ? "read " : "") + op + " 11" + more + " back"));
        }
        checks.fault(3, Checks.main(0, "new @No pop back"));
        checks.fault(3, Checks.main(0, "push 0 array @No pop back"));
        checks.fault(3, Checks.main(0, "null cast @No pop back"));
        checks.fault(3, Checks.main(0, "null cast @No[] pop back"));
        checks.fault(3, Checks.main(0, "null is @No pop back"));
        checks.fault(3, Checks.main(0, "null is @No[] pop back"));
        checks.right(Checks.main(0, "new Later pop push 0 array Later pop null cast Later[] pop back") + " class Later of Object { }");
    }

    private static void references() {
        String top = "class A of Object { field f int method m ( ) none 1 { back } static s ( ) none 0 { back } "
            + "field both int static both ( ) none 0 { back } } class B of A { } ";
        for (String c : "A B".split(" ")) {
            checks.right(Checks.main(0, "null get " + c + ".f pop back", "", top));
            checks.right(Checks.main(0, "null push 1 put " + c + ".f back", "", top));
            checks.right(Checks.main(0, "call " + c + ".s back", "", top));
            checks.right(Checks.main(0, "null send " + c + ".m back", "", top));
            checks.right(Checks.main(0, "call " + c + ".both null get " + c + ".both pop back", "", top));
        }
        for (String op : "get put call send".split(" ")) {
            checks.fault(3, Checks.main(0, op + " @No.f back", "", top));
            checks.fault(3, Checks.main(0, op + " @B.x back", "", top));
            checks.fault(3, Checks.main(0, op + " @Object.f back", "", top));
            checks.fault(3, Checks.main(0, op + " @Main.f back", "", top));
        }
        checks.fault(3, Checks.main(0, "get @A.m back", "", top));
        checks.fault(3, Checks.main(0, "put @B.s back", "", top));
        checks.fault(3, Checks.main(0, "call @B.m back", "", top));
        checks.fault(3, Checks.main(0, "send @B.s back", "", top));
        checks.fault(3, Checks.main(0, "call @A.f back", "", top));
        checks.fault(3, Checks.main(0, "send @A.both back", "", top));
        checks.fault(3, Checks.main(0, "null get @A.g pop back", "", "class A of Object { } class B of A { field g int } "));
        checks.right(Checks.main(0, "call Later.s back") + " class Later of Object { static s ( ) none 0 { back } }");
    }

    private static void ends() {
        checks.fault(3, "class Main of Object { static main ( ) none 0 { @} }");
        checks.fault(3, "class Main of Object { static main ( ) none 0 { a : @} }");
        checks.fault(3, "class Main of Object { static main ( ) none 0 { back read pop @} }");
        checks.fault(3, "class Main of Object { static main ( ) none 0 { a : read read eq a @} }");
        checks.fault(3, "class Main of Object { static main ( ) none 0 { back read a : @} }");
        checks.fault(3, Checks.main(0, "back", "static s ( ) int 0 { push 1 @}", ""));
        checks.right("class Main of Object { static main ( ) none 0 { a : goto a } }");
        checks.right("class Main of Object { static main ( ) none 0 { null throw } }");
        checks.right("class Main of Object { static main ( ) none 0 { back b : } }");
        checks.right(Checks.main(0, "back", "static s ( ) int 0 { push 1 give }", ""));
    }

    private static void mains() {
        checks.fault(3, "class A of Object { static main ( ) none 0 { back } } @");
        checks.fault(3, "class Main of Object { } @");
        checks.fault(3, "class Main of Object { method main ( ) none 1 { back } } @");
        checks.fault(3, "class Main of Object { static main ( int ) none 1 { back } } @");
        checks.fault(3, "class Main of Object { static main ( ) int 1 { push 0 give } } @");
        checks.fault(3, "class Main of Object { static mains ( ) none 1 { back } } @");
        checks.fault(3, "class A of Object { static main ( ) none 0 { back } } class Main of A { } @");
        checks.fault(3, "class Main of Object { field main int } @");
        checks.right("class Main of Error { static main ( ) none 0 { back } } class B of Main { }");
        // Main is looked for at last: the lines' faults come before.
        checks.fault(3, "class A of Object { static main ( ) none 0 { load @0 back } }");
    }

    private static void orderOfWalks() {
        checks.fault(3, "class A of Object { field a No } class B of @No { }");
        checks.fault(3, "class Main of Object { static main ( ) none 0 { load 0 } field a @No }");
        checks.fault(3, "class Main of Object { static main ( ) none 0 { load @0 } static s ( ) none 0 { } }");
        checks.fault(3, "class Main of Object { static main ( ) none @99 { back } static s ( No ) none 0 { } }");
    }

    private static void sizes() {
        ObjectMachine x = Checks.loaded("class A of Object { field a int field b A[] method m ( ) none 1 { back } } "
            + "class B of A { field c int method m ( ) none 1 { a : push 1 array int pop b : back c : pop back "
            + "catch a b c Error catch a c c NullError } } " + Checks.main(0, "new A pop new B pop back"));
        int[] due = {12, 3, 3, 3, 3, 2};
        for (int what = 0; what < 6; what++) {
            checks.due("size(" + what + ")", x.size(what), due[what]);
        }
        for (int what : new int[] {-1, 6, 100, Integer.MIN_VALUE, Integer.MAX_VALUE}) {
            checks.due("size(" + what + ")", x.size(what), -1);
        }
        Checks.give(x, MAIN);
        checks.due("load", x.load(), 0);
        int[] then = {1, 0, 1, 0, 1, 0};
        for (int what = 0; what < 6; what++) {
            checks.due("size(" + what + ")", x.size(what), then[what]);
        }
    }
}
