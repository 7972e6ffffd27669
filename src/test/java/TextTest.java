/** Promises 4 and 5: load and faultAt, with the faults 1 and 2: what a text is, and what a program's form is. */
public final class TextTest {
    private static final Checks checks = new Checks();
    private static final String LONG = "abcdefghijklmnopqrstuvwx";
    private static final String LONG_CLASS = "Abcdefghijklmnopqrstuvwx";

    public static void main(String[] args) {
        bytes();
        blanks();
        words();
        classesAndMembers();
        lines();
        operands();
        orderOfFaults();
        programStays();
        checks.finish("TextTest");
    }

    private static void bytes() {
        for (int c = 0; c < 256; c++) {
            boolean right = c == 9 || c == 10 || c == 13 || c >= 32 && c <= 126;
            String text = "; " + (char) c + "\n" + Checks.main(0, "back");
            if (c != '@') {
                checks.fault(right ? 0 : 1, right ? text : "@" + text);
            }
        }
        checks.fault(1, "class Main@\u0000 of Object { }");
        checks.fault(1, "class Main @\u007f of Object { }");
        checks.fault(1, "class Main{@\u001f");
        checks.fault(1, "@\u0080");
        checks.fault(1, "a b c:d;(((@\u00ff");
        checks.fault(1, "a b\n;((\n c@\u000b");
        // Fault 1 comes before all others, wherever it lies.
        checks.fault(1, "} } ) wrong from the beginning @\u0001");
    }

    private static void blanks() {
        checks.right("class\tMain\rof\nObject{static main()none 0{back}}");
        checks.right("class;x\nMain of Object{;}\nstatic main()none 0{back;;\n};\n};");
        checks.right("class Main of Object { static main ( ) none 0 { back } } ; the end");
        checks.fault(2, "class Main of Object { static main ( ) none 0 { back ; } }\n }@");
        checks.fault(2, "@cl;\nass Main of Object { static main ( ) none 0 { back } }");
        checks.fault(3, "@");
        checks.fault(3, " ; nothing \n\t\r @");
    }

    private static void words() {
        checks.right(Checks.main(1, LONG + " : back"));
        checks.fault(2, Checks.main(1, "@" + LONG + "y : back"));
        checks.right(Checks.main(1, "aZ_09 : a : back"));
        checks.fault(2, Checks.main(1, "@_a : back"));
        checks.fault(2, Checks.main(1, "@A : back"));
        checks.fault(2, Checks.main(1, "@a-b : back"));
        checks.fault(2, Checks.main(1, "@9 : back"));
        checks.right("class " + LONG_CLASS + " of Object { field a " + LONG_CLASS + "[] } " + Checks.main(0, "back"));
        checks.fault(2, "class @" + LONG_CLASS + "y of Object { } " + Checks.main(0, "back"));
        checks.fault(2, "class @lower of Object { }");
        checks.fault(2, "class A of @lower { }");
        checks.right("class A of Object { field b int[] field c A field d A[] field e int } " + Checks.main(0, "back"));
        checks.fault(2, "class A of Object { field b @int[ }");
        checks.fault(2, "class A of Object { field b @A[][] }");
        checks.fault(2, "class A of Object { field b @[] }");
        checks.fault(2, "class A of Object { field b @none }");
        checks.fault(2, "class A of Object { field b @ints }");
        checks.fault(2, "class A of Object { field b @a }");
        checks.fault(2, "class A of Object { field b A @[] }");
        for (String number : "0 -0 1 -1 0000000001 2147483647 -2147483648 -0000000009".split(" ")) {
            checks.right(Checks.main(0, "push " + number + " write back"));
        }
        for (String number : "- + +1 2147483648 -2147483649 00000000001 -00000000001 9999999999 1a 1.0 a -- 1-".split(" ")) {
            checks.fault(2, Checks.main(0, "push @" + number + " write back"));
        }
        checks.right(Checks.main(0, "back", "static s ( ) none 0 { call Main.s back }", ""));
        for (String reference : "Main Main. .s main.s Main.S Main..s Main.s.s Main.s[] Main.9 Main.s. Main[].s".split(" ")) {
            checks.fault(2, Checks.main(0, "call @" + reference + " back"));
        }
        checks.fault(2, Checks.main(0, "call Main.s@() back"));
        checks.fault(2, Checks.main(0, "call @Main .s back"));
        checks.right("class " + LONG_CLASS + " of Object { field " + LONG + " int static s ( ) int 0 { null get "
            + LONG_CLASS + "." + LONG + " give } } " + Checks.main(0, "back"));
        checks.fault(2, Checks.main(0, "call @" + LONG_CLASS + "." + LONG + "y back"));
        checks.fault(2, Checks.main(0, "call @" + LONG_CLASS + "y." + LONG + " back"));
    }

    private static void classesAndMembers() {
        checks.fault(2, "@method");
        checks.fault(2, "@Class A of Object { }");
        checks.fault(2, "class A @off Object { }");
        checks.fault(2, "class A of Object @( ) }");
        checks.fault(2, "class A of Object { @class B");
        checks.fault(2, "class A of Object { @back }");
        checks.fault(2, "class A of Object { } @}");
        checks.fault(2, "class@");
        checks.fault(2, "class A@");
        checks.fault(2, "class A of@");
        checks.fault(2, "class A of Object@");
        checks.fault(2, "class A of Object {@");
        checks.fault(2, "class A of Object { field@");
        checks.fault(2, "class A of Object { field a@");
        checks.fault(2, "class A of Object { field a int@");
        checks.fault(2, "class A of Object { field @A int }");
        checks.fault(2, "class A of Object { field a int @int }");
        checks.fault(2, "class A of Object { static@");
        checks.fault(2, "class A of Object { static a @) none 0 { } }");
        checks.fault(2, "class A of Object { static a (@");
        checks.fault(2, "class A of Object { static a ( int A[] @none ) none 0 { } }");
        checks.fault(2, "class A of Object { static a ( @( ) none 0 { } }");
        checks.fault(2, "class A of Object { static a ( int ) @) none 0 { } }");
        checks.fault(2, "class A of Object { static a ( ) @0 none { } }");
        checks.fault(2, "class A of Object { static a ( ) none @a { } }");
        checks.fault(2, "class A of Object { static a ( ) none 0 @0 { } }");
        checks.fault(2, "class A of Object { static a ( ) none 0@");
        checks.fault(2, "class A of Object { static a ( ) none 0 {@");
        checks.fault(2, "class A of Object { static a ( ) none 0 { back }@");
        checks.fault(2, "class A of Object { static a ( ) none 0 { back @{ } }");
        checks.right("class Of of Object { } " + Checks.main(0, "back",
            "field field int field class int field of int method method ( ) int 1 { push 0 give } "
            + "static static ( ) none 0 { back } static int ( ) none 0 { back } static none ( ) none 0 { back }", ""));
    }

    private static void lines() {
        checks.right(Checks.main(0, "push : back : catch : goto : class : none : int : a : goto push"));
        checks.right(Checks.main(0, "a : push 1 write b : goto a catch a b c Error c : pop back"));
        checks.right(Checks.main(0, "a : push 1 write catch : goto a catch a catch c Error c : pop back"));
        checks.fault(4, Checks.main(0, "a : @push 1 write : goto a"));
        checks.fault(2, Checks.main(0, "goto a @: back"));
        checks.fault(2, Checks.main(0, "push 1 @: back"));
        checks.fault(2, Checks.main(0, "a @b : back"));
        checks.fault(2, Checks.main(0, "a @back"));
        checks.fault(2, Checks.main(0, "jump @back"));
        checks.fault(2, Checks.main(0, "ret @}"));
        checks.fault(2, "class Main of Object { static main ( ) none 0 { jump@");
        checks.fault(2, "class Main of Object { static main ( ) none 0 { push@");
        checks.fault(2, "class Main of Object { static main ( ) none 0 { inc 0@");
        checks.fault(2, "class Main of Object { static main ( ) none 0 { catch a b@");
        checks.fault(2, Checks.main(0, "back @5"));
        checks.fault(2, Checks.main(0, "back @Main"));
        checks.fault(2, Checks.main(0, "back @("));
        checks.fault(2, Checks.main(0, "a : @: back"));
        checks.fault(2, Checks.main(0, "back @5 :"));
        checks.fault(2, Checks.main(0, "back @Main :"));
        checks.fault(2, Checks.main(0, "catch @A b c Error back"));
        checks.fault(2, Checks.main(0, "catch a @5 c Error back"));
        checks.fault(2, Checks.main(0, "catch a b @: Error back"));
        checks.fault(2, Checks.main(0, "catch a b c @error back"));
        checks.fault(2, Checks.main(0, "catch a b c @Error[] back"));
    }

    private static void operands() {
        for (String op : ("null dup pop swap add sub mul div rem and or xor shl shr neg length aload astore throw give back "
            + "read write").split(" ")) {
            checks.fault(2, Checks.main(0, op + " @0 back"));
            checks.fault(2, Checks.main(0, op + " back") + " @}");
        }
        for (String op : "goto eq ne lt le gt ge isnull notnull same other".split(" ")) {
            checks.fault(2, Checks.main(0, op + " @0 back"));
            checks.fault(2, Checks.main(0, op + " @Main back"));
            checks.fault(2, Checks.main(0, op + " back back") + " @}");
            checks.fault(3, Checks.main(0, op + " @back back"));
        }
        for (String op : "push load store inc".split(" ")) {
            checks.fault(2, Checks.main(0, op + " @a back"));
            checks.fault(2, Checks.main(0, op + " @Main back"));
        }
        checks.fault(2, Checks.main(0, "push 0 @0 back"));
        checks.fault(2, Checks.main(1, "load 0 @0 back"));
        checks.fault(2, Checks.main(1, "inc 0 @back"));
        checks.fault(2, Checks.main(1, "inc 0 0 @0"));
        checks.fault(2, Checks.main(0, "new @int back"));
        checks.fault(2, Checks.main(0, "new @Main[] back"));
        checks.fault(2, Checks.main(0, "new @a back"));
        checks.fault(2, Checks.main(0, "array @int[] back"));
        checks.fault(2, Checks.main(0, "array @Main[] back"));
        checks.fault(2, Checks.main(0, "array @5 back"));
        for (String op : "cast is".split(" ")) {
            checks.fault(2, Checks.main(0, op + " @int back"));
            checks.fault(2, Checks.main(0, op + " @none back"));
            checks.fault(2, Checks.main(0, op + " @a back"));
            for (String type : "int[] Main Main[]".split(" ")) {
                checks.right(Checks.main(0, "null " + op + " " + type + " pop back"));
            }
        }
        for (String op : "get put call send".split(" ")) {
            checks.fault(2, Checks.main(0, op + " @Main back"));
            checks.fault(2, Checks.main(0, op + " @a back"));
            checks.fault(2, Checks.main(0, op + " @5 back"));
        }
        checks.fault(2, Checks.main(0, "@Push 1 back"));
        checks.fault(2, Checks.main(0, "pushes @1 back"));
        checks.fault(2, Checks.main(0, "pus @1 back"));
    }

    private static void orderOfFaults() {
        // The form of the whole text is looked at before names, and names before types.
        checks.fault(2, "class A of B { } class A of A { } @}");
        checks.fault(3, "class Main of Object { static main ( ) none 0 { pop back } } class A of @B { }");
        checks.fault(4, "class Main of Object { static main ( ) none 0 { @pop back } } class A of Main { }");
    }

    private static void programStays() {
        ObjectMachine x = new ObjectMachine();
        Checks.give(x, Checks.main(0, "push 1 write back"));
        checks.due("load", x.load(), 0);
        checks.due("run", x.run(10), 0);
        String[] wrong = {"\u0001", "}", "class A of B { }", Checks.main(0, "pop back")};
        for (int k = 0; k < 4; k++) {
            Checks.give(x, wrong[k]);
            checks.due("load", x.load(), k + 1);
            checks.due("size", x.size(0), 3);
            checks.due("height", x.height(1), 1);
            checks.due("steps of the latest run", x.steps(), 3);
            checks.due("run", x.run(10), 0);
            checks.due("out", x.out(0), 1);
        }
        Checks.give(x, Checks.main(0, "push 2 push 3 write write back"));
        checks.due("load", x.load(), 0);
        checks.due("faultAt", x.faultAt(), -1);
        checks.due("size", x.size(0), 5);
        checks.due("the latest run stays", x.out(0), 1);
        checks.due("run", x.run(10), 0);
        checks.due("out", x.out(1), 2);
    }
}
