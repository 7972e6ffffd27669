/** The sentences of "Terms" 3: names. */
public final class NamesSentencesTest {
    private static final String MAIN = Checks.main(0, "back");
    private static final String KNOWN = "Object Error NullError IndexError SizeError DivideError CastError StoreError";
    private static final String S = "static a ( ) none 0 { back } ";
    private static final String M = "method a ( ) none 1 { back } ";

    public static void main(String[] args) {
        Sentences sentences = new Sentences();
        all(sentences);
        sentences.run("NamesSentencesTest", args);
    }

    static void all(Sentences s) {
        s.says("3 NAMES (fault 3). KNOWN CLASSES: Object; Error of Object; NullError, IndexError, SizeError, DivideError, CastError, "
            + "StoreError of Error;", NamesSentencesTest::knownClasses);
        s.says("they have no members.", NamesSentencesTest::knownMembers);
        s.says("It is looked at in walks through the text, one behind the other;", NamesSentencesTest::walks);
        s.says("the first fault in a walk is told at its token:", NamesSentencesTest::firstOfAWalk);
        s.says("first the classes: one of the name of a known or an earlier class,", NamesSentencesTest::classNames);
        s.says("or a 25th, at its name;", NamesSentencesTest::mostClasses);
        s.says("a SUPER that is no known or earlier class, at that.", NamesSentencesTest::supers);
        s.says("Then the members, without their lines:", NamesSentencesTest::membersBeforeLines);
        s.says("at its name a field whose class, or one above it, has a field of that name,", NamesSentencesTest::fieldNames);
        s.says("has a field of that name, or that is the 49th of all;", NamesSentencesTest::mostFields);
        s.says("a static or method whose class has one of that name already,", NamesSentencesTest::bodyNames);
        s.says("or one above it (the nearest) but not as a method for a method with the same types and result,",
            NamesSentencesTest::replacing);
        s.says("with the same types and result, or that is the 49th of all;", NamesSentencesTest::mostBodies);
        s.says("at the type one of a class that is not there (the types from the left, then the result);",
            NamesSentencesTest::typesOfMembers);
        s.says("at LOCALS a number not 0 .. 12", NamesSentencesTest::mostLocals);
        s.says("or below the number of the types (and one more for a method).", NamesSentencesTest::fewestLocals);
        s.says("Then the lines: at its name a label that the body has before;", NamesSentencesTest::labelsTwice);
        s.says("at catch the 65th of all;", NamesSentencesTest::mostCatches);
        s.says("at FROM, TO or AT a label that the body does not have (before or behind),", NamesSentencesTest::labelsOfCatches);
        s.says("at TO one not behind FROM (with no instruction between),", NamesSentencesTest::emptyCatches);
        s.says("at AT one behind the last instruction,", NamesSentencesTest::handlersAtTheEnd);
        s.says("at CLASS a class that is not there or not Error or below it;", NamesSentencesTest::classesOfCatches);
        s.says("at the instruction's word the 1025th of all,", NamesSentencesTest::mostInstructions);
        s.says("or the 49th new or array of all;", NamesSentencesTest::mostSites);
        s.says("at K a number that is not 0 .. LOCALS - 1;", NamesSentencesTest::numbersOfLocals);
        s.says("at L a label that the body does not have", NamesSentencesTest::labelsOfJumps);
        s.says("or that stands behind the last instruction;", NamesSentencesTest::jumpsToTheEnd);
        s.says("at C, E, T a class that is not there;", NamesSentencesTest::classOperands);
        s.says("at F a class that is not there,", NamesSentencesTest::classesOfReferences);
        s.says("or a field (get, put), static (call) or method (send) that neither it nor one above it has",
            NamesSentencesTest::membersOfReferences);
        s.says("(the nearest one of that name counts, for call and send whatever it is);", NamesSentencesTest::nearestMember);
        s.says("at the } of a body one that has no instruction", NamesSentencesTest::emptyBodies);
        s.says("or whose last one is not goto, throw, give or back.", NamesSentencesTest::lastInstructions);
        s.says("At last, at the number of tokens: there is no class Main that has itself a static main with no types and the "
            + "result none.", NamesSentencesTest::mains);
        s.says("Instructions are NUMBERED from 0 in the order of the text.", NamesSentencesTest::numbersOfInstructions);
    }

    private static void knownClasses(Checks c) {
        for (String known : KNOWN.split(" ")) {
            c.right("class A of " + known + " { } " + MAIN);
            c.right(Checks.main(0, "new " + known + " pop push 1 array " + known + " pop back"));
            int error = known.equals("Object") ? 0 : 1;
            for (String other : KNOWN.split(" ")) {
                boolean below = other.equals(known) || other.equals("Object") || error == 1 && other.equals("Error");
                c.ran(Checks.main(0, "new " + known + " is " + other + " write back"), 0, below ? 1 : 0);
            }
        }
        for (String word : "Objects Errors Erro NullErro MemoryError Main2 ArithmeticError".split(" ")) {
            c.fault(3, "class A of @" + word + " { } " + MAIN);
        }
    }

    private static void knownMembers(Checks c) {
        for (String known : KNOWN.split(" ")) {
            for (String op : "get put call send".split(" ")) {
                c.fault(3, Checks.main(0, op + " @" + known + ".a back", "field a int " + S, ""));
            }
            c.due("fields of " + known, c.ran(Checks.main(0, "new " + known + " pop back"), 0).made(1), 0);
            // So that those below it may have any.
            c.right("class A of " + known + " { field a int " + S + "} " + MAIN);
        }
    }

    private static void walks(Checks c) {
        // Each walk's fault stands before the fault of the walk before it.
        c.fault(3, "class A of Object { field a No static s ( ) none 0 { new No } } class B of @No { }");
        c.fault(3, "class A of Object { static s ( ) none 0 { new No } static t ( ) none 0 { } field a @No }");
        c.fault(3, "class A of Object { static s ( ) none 0 { new @No } }");
        c.fault(3, "class A of Object { static s ( ) none 0 { back } } @");
    }

    private static void firstOfAWalk(Checks c) {
        c.fault(3, "class A of @No { } class A of No { } class B of No { }");
        c.fault(3, "class A of Object { } class @A of No { } class B of No { }");
        c.fault(3, "class A of Object { field a int field @a No static s ( No ) No 99 { back } }");
        c.fault(3, "class A of Object { field b @No field b No }");
        c.fault(3, "class A of Object { static s ( @No ) No 99 { back } " + S + S + "}");
        c.fault(3, Checks.main(0, "load @0 new No a : a : goto b pop"));
        c.fault(3, Checks.main(0, "a : @a : load 0 catch a b c No pop"));
        c.fault(3, Checks.main(0, "catch @b c d No load 0 pop"));
        c.fault(3, "class Main of Object { static main ( ) none 0 { read pop @} static s ( ) none 0 { load 0 } }");
    }

    private static void classNames(Checks c) {
        for (String known : KNOWN.split(" ")) {
            c.fault(3, "class @" + known + " of Object { } " + MAIN);
        }
        c.fault(3, "class A of Object { } class B of A { } class @A of Object { } " + MAIN);
        c.fault(3, MAIN + " class @Main of Object { }");
        c.fault(3, "class A of Object { } class @A of A { } " + MAIN);
        // Names that begin alike, or differ in the case of a letter only.
        c.right("class A of Object { } class AA of Object { } class Aa of Object { } class Objec of AA { } class Objects of Aa { } " + MAIN);
    }

    private static void mostClasses(Checks c) {
        String classes = Checks.times(23, "class A# of Object { } ");
        c.right(classes + MAIN);
        c.due("classes", Checks.loaded(classes + MAIN).size(4), 24);
        c.right("class A0 of StoreError { } class A1 of A0 { } class A2 of A1 { } " + classes.substring(classes.indexOf("class A3 ")) + MAIN);
        c.right(MAIN + classes);
        c.fault(3, classes + MAIN + " class @B of Object { }");
        // It is the number that counts, before its SUPER is looked at.
        c.fault(3, classes + MAIN + " class @B of No { }");
        c.fault(3, classes + MAIN + " class @B of Object { } class C of Object { }");
    }

    private static void supers(Checks c) {
        c.right("class A of Object { } class B of A { } class C of B { } " + MAIN);
        c.fault(3, "class A of @A { } " + MAIN);
        c.fault(3, "class A of @B { } class B of Object { } " + MAIN);
        c.fault(3, "class A of @No { } " + MAIN);
        c.fault(3, "class A of @Main { } " + MAIN);
        c.right(MAIN + " class A of Main { }");
    }

    private static void membersBeforeLines(Checks c) {
        c.fault(3, "class A of Object { static s ( ) none 0 { load 5 } } class B of Object { field a @No }");
        c.fault(3, "class A of Object { static s ( ) none 0 { } static @s ( ) none 0 { } }");
        c.fault(3, "class A of Object { static s ( ) none 0 { goto x } static t ( ) none @13 { back } }");
        c.fault(3, Checks.main(0, Checks.times(1030, "or ") + "back", "method m ( ) none @0 { back }", ""));
    }

    private static void fieldNames(Checks c) {
        c.fault(3, "class A of Object { field a int field @a int } " + MAIN);
        c.fault(3, "class A of Object { field a int } class B of A { field @a int } " + MAIN);
        c.fault(3, "class A of Object { field a int } class B of A { } class C of B { field b int field @a A } " + MAIN);
        c.right("class A of Object { field a int } class B of Object { field a int } " + MAIN);
        c.right("class A of Object { } class B of A { field a int } class C of A { field a int } " + MAIN);
        // Names that begin alike are two; a field and a body may bear the same one.
        c.right("class A of Object { field a int field aa int field aA int field a_ int " + S + "} " + MAIN);
        c.right("class A of Object { " + M + "} class B of A { field a int } " + MAIN);
        // At its name, though its type is wrong too.
        c.fault(3, "class A of Object { field a int field @a No } " + MAIN);
    }

    private static void mostFields(Checks c) {
        String all = "class A of Object { " + Checks.times(48, "field a# int ") + "} ";
        c.right(all + MAIN);
        c.due("fields", Checks.loaded(all + MAIN).size(3), 48);
        c.fault(3, "class A of Object { " + Checks.times(48, "field a# int ") + "field @b No } " + MAIN);
        c.fault(3, all + "class B of Object { field @a0 int } " + MAIN);
        String parts = Checks.times(6, "class A# of Object { field a int field b int field c int field d int field e int field f int "
            + "field g int field h int } ");
        c.right(parts + MAIN);
        c.fault(3, parts + Checks.main(0, "back", "field @a int", ""));
    }

    private static void bodyNames(Checks c) {
        for (String one : new String[] {S, M}) {
            for (String two : new String[] {S, M}) {
                c.fault(3, "class A of Object { " + one + two.replace("a (", "@a (") + "} " + MAIN);
                c.right("class A of Object { " + one + "} class B of Object { " + two + "} " + MAIN);
                c.right("class A of Object { " + one + two.replace("a (", "aa (") + "} " + MAIN);
            }
        }
        c.fault(3, "class A of Object { " + M + "static b ( ) none 0 { back } method @a ( No ) none 1 { back } } " + MAIN);
    }

    private static void replacing(Checks c) {
        String top = "class A of Object { method a ( int A ) A[] 3 { null give } static s ( ) none 0 { back } } ";
        c.right(top + "class B of A { method a ( int A ) A[] 12 { null give } } " + MAIN);
        c.right(top + "class B of A { } class C of B { method a ( int A ) A[] 3 { null give } } " + MAIN);
        c.right(top + "class B of A { method a ( int A ) A[] 3 { null give } } class C of B { method a ( int A ) A[] 3 { null give } } " + MAIN);
        for (String head : new String[] {"( A int ) A[]", "( int ) A[]", "( ) A[]", "( int A A ) A[]", "( int Object ) A[]", "( int B ) A[]",
            "( int A[] ) A[]", "( int A ) A", "( int A ) Object[]", "( int A ) B[]", "( int A ) none", "( int A ) No", "( int No ) A[]"}) {
            c.fault(3, top + "class B of A { method @a " + head + " 12 { null give } } " + MAIN);
            c.fault(3, top + "class B of A { } class C of B { method @a " + head.replace('B', 'C') + " 12 { null give } } " + MAIN);
        }
        c.fault(3, top + "class B of A { static @a ( int A ) A[] 3 { null give } } " + MAIN);
        c.fault(3, top + "class B of A { static @s ( ) none 0 { back } } " + MAIN);
        c.fault(3, top + "class B of A { method @s ( ) none 1 { back } } " + MAIN);
        // One beside it, or below it, is not above it.
        c.right(top + "class B of Object { static a ( ) none 0 { back } method s ( ) none 1 { back } } " + MAIN);
        c.right("class A of Object { } class B of A { " + M + "} class C of A { static a ( int ) int 1 { load 0 give } } " + MAIN);
    }

    private static void mostBodies(Checks c) {
        String all = "class A of Object { " + Checks.times(23, "static s# ( ) none 0 { back } method m# ( ) none 1 { back } ") + "} ";
        String last = "class B of A { method m0 ( ) none 1 { back } } ";
        c.right(all + last + MAIN);
        c.due("bodies", Checks.loaded(all + last + MAIN).size(2), 48);
        c.fault(3, all + last + Checks.main(0, "back", "static @t ( No ) none 0 { back }", ""));
        c.fault(3, all + last + MAIN + " class C of Object { method @m ( ) none 0 { back } }");
        // Fields are counted by themselves.
        c.right(all + last + Checks.main(0, "back", Checks.times(48, "field a# int "), ""));
    }

    private static void typesOfMembers(Checks c) {
        c.fault(3, Checks.main(0, "back", "field a @No", ""));
        c.fault(3, Checks.main(0, "back", "field a @No[]", ""));
        for (String kind : "static method".split(" ")) {
            c.fault(3, Checks.main(0, "back", kind + " a ( int @No No[] ) No 99 { back }", ""));
            c.fault(3, Checks.main(0, "back", kind + " a ( int Main @No[] ) No 99 { back }", ""));
            c.fault(3, Checks.main(0, "back", kind + " a ( int Main ) @No 99 { back }", ""));
            c.fault(3, Checks.main(0, "back", kind + " a ( ) @No[] 99 { back }", ""));
            c.fault(3, Checks.main(0, "back", kind + " a ( " + Checks.times(40, "int ") + "@No ) none 12 { back }", ""));
        }
        // A class that stands behind it is there, and so are the known ones.
        c.right(Checks.main(0, "back", "field a Later field b Later[] field c Error static s ( Later CastError[] ) Later 2 { load 0 give }", "")
            + " class Later of Object { }");
    }

    private static void mostLocals(Checks c) {
        for (int locals = -3; locals <= 16; locals++) {
            boolean right = locals >= 0 && locals <= 12;
            c.fault(right ? 0 : 3, Checks.main(0, "back", "static a ( ) none " + (right ? "" : "@") + locals + " { back }", ""));
        }
        for (String number : "2147483647 -2147483648 256 268 -244".split(" ")) {
            c.fault(3, Checks.main(0, "back", "static a ( ) none @" + number + " { back }", ""));
        }
    }

    private static void fewestLocals(Checks c) {
        for (int types = 0; types <= 14; types++) {
            for (int locals = 0; locals <= 12; locals++) {
                String head = " a ( " + Checks.times(types, "int ") + ") none ";
                boolean right = locals >= types;
                c.fault(right ? 0 : 3, Checks.main(0, "back", "static" + head + (right ? "" : "@") + locals + " { back }", ""));
                right = locals >= types + 1;
                c.fault(right ? 0 : 3, Checks.main(0, "back", "method" + head + (right ? "" : "@") + locals + " { back }", ""));
            }
        }
    }

    private static void labelsTwice(Checks c) {
        c.fault(3, Checks.main(0, "a : @a : back"));
        c.fault(3, Checks.main(0, "a : b : push 1 pop @a : back"));
        c.fault(3, Checks.main(0, "a : back @a :"));
        c.fault(3, Checks.main(0, "a : goto a @a : back"));
        // A line before the second one means the first one, though the second one would be a fault of that line.
        c.fault(3, Checks.main(0, "a : goto a @a :"));
        c.fault(3, Checks.main(0, "a : push 0 write b : back c : pop back catch a b c Error @a :"));
        c.fault(3, Checks.main(0, "a : push 0 write b : back c : pop back catch a b c Error @c :"));
        c.right(Checks.main(0, "a : aa : a_ : aA : back"));
        c.right(Checks.main(0, "a : back", "static s ( ) none 0 { a : goto a } method m ( ) none 1 { a : back }", ""));
    }

    private static final String GUARDED = "a : push 0 write b : back c : pop back ";

    private static void mostCatches(Checks c) {
        String text = Checks.main(0, GUARDED + Checks.times(64, "catch a b c Error "));
        c.right(text);
        c.due("catches", Checks.loaded(text).size(5), 64);
        c.fault(3, Checks.main(0, GUARDED + Checks.times(64, "catch a b c Error ") + "@catch x x x X"));
        // Of all bodies together.
        c.fault(3, Checks.main(0, GUARDED + Checks.times(40, "catch a b c Error "),
            "static s ( ) none 0 { " + GUARDED + Checks.times(24, "catch a b c Error ") + "@catch a b c Error }", ""));
    }

    private static void labelsOfCatches(Checks c) {
        c.right(Checks.main(0, "catch a b c Error " + GUARDED));
        c.right(Checks.main(0, GUARDED + "catch a b c Error"));
        for (String side : new String[] {"#" + GUARDED, GUARDED + "#"}) {
            c.fault(3, Checks.main(0, side.replace("#", "catch @x b c Error ")));
            c.fault(3, Checks.main(0, side.replace("#", "catch a @x c Error ")));
            c.fault(3, Checks.main(0, side.replace("#", "catch a b @x Error ")));
            c.fault(3, Checks.main(0, side.replace("#", "catch @x y z No ")));
            c.fault(3, Checks.main(0, side.replace("#", "catch a @x y No ")));
            c.fault(3, Checks.main(0, side.replace("#", "catch a b @x No ")));
        }
        // Those of another body are not its own.
        c.fault(3, Checks.main(0, GUARDED, "static s ( ) none 0 { catch @a b c Error back }", ""));
        c.fault(3, Checks.main(0, "catch @a b c Error back", "static s ( ) none 0 { " + GUARDED + "}", ""));
    }

    private static void emptyCatches(Checks c) {
        c.right(Checks.main(0, "catch a b c Error a : push 1 b : pop back c : pop back"));
        c.fault(3, Checks.main(0, "catch a @a c Error a : back b : c : back"));
        c.fault(3, Checks.main(0, "catch a @b c Error a : b : back c : back"));
        c.fault(3, Checks.main(0, "catch b @a c Error a : b : back c : back"));
        c.fault(3, Checks.main(0, "catch b @a c Error a : back b : back c : back"));
        c.fault(3, Checks.main(0, "a : catch a @b c Error b : back c : back"));
        // FROM behind the last instruction leaves no instruction between.
        c.fault(3, Checks.main(0, "catch b @d c Error a : back c : back b : d :"));
        // TO may stand behind the last instruction.
        c.right(Checks.main(0, "goto a c : pop back a : back b : catch a b c Error"));
    }

    private static void handlersAtTheEnd(Checks c) {
        c.fault(3, Checks.main(0, "a : back b : back c : catch a b @c Error"));
        c.fault(3, Checks.main(0, "catch a b @b Error a : back b :"));
        c.right(Checks.main(0, "a : push 0 write b : back c : throw catch a b c Error"));
        // Not behind the last one of its own body, though others follow.
        c.fault(3, Checks.main(0, "a : back b : catch a b @b Error", "static s ( ) none 0 { back }", ""));
    }

    private static void classesOfCatches(Checks c) {
        for (String known : KNOWN.split(" ")) {
            boolean right = !known.equals("Object");
            c.fault(right ? 0 : 3, Checks.main(0, GUARDED + "catch a b c " + (right ? "" : "@") + known));
        }
        String classes = "class A of Object { } class B of Error { } class C of B { } class D of StoreError { } ";
        for (String name : "B C D".split(" ")) {
            c.right(Checks.main(0, GUARDED + "catch a b c " + name, "", classes));
        }
        for (String name : "A Main No Errors".split(" ")) {
            c.fault(3, Checks.main(0, GUARDED + "catch a b c @" + name, "", classes));
        }
    }

    private static void mostInstructions(Checks c) {
        String text = Checks.main(0, Checks.times(511, "read pop ") + "goto a a : back");
        c.right(text);
        c.due("instructions", Checks.loaded(text).size(0), 1024);
        c.fault(3, Checks.main(0, Checks.times(512, "read pop ") + "@back"));
        c.fault(3, Checks.main(0, Checks.times(512, "read pop ") + "@new No back"));
        // Of all bodies together; labels and catches are none.
        String half = Checks.times(255, "read pop ") + "goto end end : ";
        c.right(Checks.main(0, half + "back", "static s ( ) none 0 { x : y : " + half + "back z : }", ""));
        c.fault(3, Checks.main(0, half + "back", "static s ( ) none 0 { x : y : " + half + "back @load 7 }", ""));
        c.fault(3, Checks.main(0, half + "back", "static s ( ) none 0 { " + half + "back } static t ( ) none 0 { x : @back }", ""));
    }

    private static void mostSites(Checks c) {
        String all = Checks.times(24, "new Main pop push 0 array int pop ");
        String text = Checks.main(0, all + "back");
        c.right(text);
        c.due("sites", Checks.loaded(text).size(1), 48);
        c.fault(3, Checks.main(0, all + "@new No pop back"));
        c.fault(3, Checks.main(0, all + "push 0 @array No pop back"));
        // Of all bodies together, and also where no height comes to it.
        c.fault(3, Checks.main(0, "back " + all + "back", "static s ( ) none 0 { @new Main pop back }", ""));
        c.right(Checks.main(0, Checks.times(48, "new Main pop ") + "back"));
        c.fault(3, Checks.main(0, Checks.times(48, "new Main pop ") + "@new Main pop back"));
        c.fault(3, Checks.main(0, Checks.times(48, "push 0 array Main pop ") + "push 0 @array int pop back"));
    }

    private static void numbersOfLocals(Checks c) {
        for (int locals = 0; locals <= 12; locals++) {
            for (int k = -2; k <= 14; k++) {
                for (String op : "load store inc".split(" ")) {
                    boolean right = k >= 0 && k < locals;
                    String line = op + " " + (right ? "" : "@") + k + (op.equals("inc") ? " 99" : "");
                    c.fault(right ? 0 : 3, Checks.main(locals, "back " + line + " back"));
                }
            }
        }
        for (String number : "2147483647 -2147483648 256 -256".split(" ")) {
            c.fault(3, Checks.main(12, "load @" + number + " back"));
        }
        // The locals of its own body count.
        c.fault(3, Checks.main(12, "back", "static s ( ) none 1 { push 1 store @1 back }", ""));
        c.right(Checks.main(1, "back", "static s ( ) none 2 { push 1 store 1 back }", ""));
    }

    private static final String JUMPS = "goto eq ne lt le gt ge isnull notnull same other";

    private static void labelsOfJumps(Checks c) {
        for (String op : JUMPS.split(" ")) {
            c.right(Checks.main(0, "a : back " + op + " a back"));
            c.right(Checks.main(0, "back " + op + " a a : back"));
            c.fault(3, Checks.main(0, "a : " + op + " @b back"));
            c.fault(3, Checks.main(0, "a : " + op + " @aa back"));
            c.fault(3, Checks.main(0, op + " @b back", "static s ( ) none 0 { b : back }", ""));
            c.fault(3, Checks.main(0, "b : back", "static s ( ) none 0 { " + op + " @b back }", ""));
        }
        // As many labels as a text has room for, the last of which is there: the fault is the second of the others.
        c.fault(3, "class Main of Object{static main()none 0{goto z a:@a:" + "a:".repeat(7962) + "z:back}}");
        c.fault(3, "class Main of Object{static main()none 0{goto @z a:a:" + "a:".repeat(7962) + "y:back}}");
    }

    private static void jumpsToTheEnd(Checks c) {
        for (String op : JUMPS.split(" ")) {
            c.fault(3, Checks.main(0, "a : " + op + " @b back b :"));
            c.fault(3, Checks.main(0, op + " @b back a : b :", "static s ( ) none 0 { back }", ""));
            c.right(Checks.main(0, "back " + op + " b b : back c :"));
        }
    }

    private static void classOperands(Checks c) {
        c.fault(3, Checks.main(0, "new @No pop back"));
        c.fault(3, Checks.main(0, "push 0 array @No pop back"));
        for (String op : "cast is".split(" ")) {
            c.fault(3, Checks.main(0, "null " + op + " @No pop back"));
            c.fault(3, Checks.main(0, "null " + op + " @No[] pop back"));
            c.fault(3, Checks.main(0, "null " + op + " @Mai[] pop back"));
        }
        c.right(Checks.main(0, "new Later pop push 0 array Later pop null cast Later pop null is Later[] pop back") + " class Later of Object { }");
    }

    private static void classesOfReferences(Checks c) {
        String classes = "class A of Object { field f int " + S + M.replace("a (", "m (") + "} ";
        c.right(Checks.main(0, "null get A.f pop null push 1 put A.f call A.a null send A.m back", "", classes));
        for (String op : "get,put,call,send".split(",")) {
            for (String name : "f a m".split(" ")) {
                c.fault(3, Checks.main(0, op + " @No." + name + " back", "", classes));
                c.fault(3, Checks.main(0, op + " @AA." + name + " back", "", classes));
            }
        }
        c.right(Checks.main(0, "call Later.a back") + " class Later of Object { " + S + "}");
    }

    private static void membersOfReferences(Checks c) {
        String classes = "class A of Object { field f int " + S + M.replace("a (", "m (") + "} class B of A { } class C of B { } class D of Object { } ";
        for (String name : "A B C".split(" ")) {
            c.right(Checks.main(0, "null get #.f pop null push 1 put #.f call #.a null send #.m back".replace("#", name), "", classes));
        }
        for (String name : "D Object Main".split(" ")) {
            for (String reference : "get f,put f,call a,send m".split(",")) {
                c.fault(3, Checks.main(0, reference.replace(" ", " @" + name + ".") + " back", "", classes));
            }
        }
        for (String reference : "get A.a,put A.a,get C.m,put C.m,call A.f,call A.m,call C.m,send A.f,send A.a,send C.a,get A.ff,call A.aa,send A.mm".split(",")) {
            c.fault(3, Checks.main(0, reference.replace(" ", " @") + " back", "", classes));
        }
        // One below it does not count.
        c.fault(3, Checks.main(0, "null get @A.g pop back", "", "class A of Object { } class B of A { field g int } "));
        c.fault(3, Checks.main(0, "call @A.a back", "", "class A of Object { } class B of A { " + S + "} "));
        c.fault(3, Checks.main(0, "null send @A.a back", "", "class A of Object { } class B of A { " + M + "} "));
    }

    private static void nearestMember(Checks c) {
        String classes = "class A of Object { method m ( ) int 1 { push 1 give } static s ( ) int 0 { push 5 give } field m int field s int } "
            + "class B of A { method m ( ) int 1 { push 2 give } } class C of B { } class D of A { } ";
        c.ran(Checks.main(0, "new C send C.m write new D send D.m write call C.s write new C get C.m write back", "", classes), 0, 2, 1, 5, 0);
        c.fault(3, Checks.main(0, "call @C.m pop back", "", classes));
        c.fault(3, Checks.main(0, "call @D.m pop back", "", classes));
        c.fault(3, Checks.main(0, "null send @C.s pop back", "", classes));
        // Statics of one name in classes beside one another.
        c.ran(Checks.main(0, "call B.a write call C.a write back", "", "class A of Object { } class B of A { static a ( ) int 0 { push 7 give } } "
            + "class C of A { static a ( ) int 0 { push 8 give } } "), 0, 7, 8);
    }

    private static void emptyBodies(Checks c) {
        c.fault(3, "class Main of Object { static main ( ) none 0 { @} }");
        c.fault(3, "class Main of Object { static main ( ) none 0 { a : b : @} }");
        c.fault(3, Checks.main(0, "back", "method m ( ) none 1 { @}", ""));
        c.right("class Main of Object { static main ( ) none 0 { back } }");
    }

    private static void lastInstructions(Checks c) {
        for (String last : "goto a,throw,give,back".split(",")) {
            c.right(Checks.main(0, "a : back " + last));
            c.right(Checks.main(0, "a : back " + last + " b : c :"));
        }
        c.right(Checks.main(0, GUARDED + "catch a b c Error"));
        String others = "push 1,null,load 0,store 0,inc 0 1,dup,pop,swap,add,sub,mul,div,rem,and,or,xor,shl,shr,neg,eq a,ne a,lt a,le a,gt a,ge a,"
            + "isnull a,notnull a,same a,other a,new Main,array int,length,aload,astore,get Main.f,put Main.f,cast Main,is Main,call Main.main,"
            + "send Main.m,read,write";
        for (String last : others.split(",")) {
            c.fault(3, Checks.main(1, "a : back " + last + " @", "field f int method m ( ) none 1 { back }", ""));
            c.fault(3, Checks.main(1, "a : back " + last + " b : @", "field f int method m ( ) none 1 { back }", ""));
        }
    }

    private static void mains(Checks c) {
        c.right(MAIN);
        c.right("class Main of StoreError { field main int static main ( ) none 12 { back } } class B of Main { }");
        c.fault(3, "@");
        c.fault(3, "class A of Object { static main ( ) none 0 { back } } @");
        c.fault(3, "class Main of Object { } @");
        c.fault(3, "class Main of Object { field main int } @");
        c.fault(3, "class Main of Object { static main ( int ) none 1 { back } } @");
        c.fault(3, "class Main of Object { static main ( ) int 0 { push 1 give } } @");
        c.fault(3, "class Main of Object { static main ( ) Main 0 { null give } } @");
        c.fault(3, "class Main of Object { method main ( ) none 1 { back } } @");
        c.fault(3, "class Main of Object { static mains ( ) none 0 { back } static mai ( ) none 0 { back } } @");
        c.fault(3, "class Mains of Object { static main ( ) none 0 { back } } class Mai of Mains { } @");
        // Itself: one above it does not count.
        c.fault(3, "class A of Object { static main ( ) none 0 { back } } class Main of A { } @");
        // At last: behind all faults of lines, and before those of types.
        c.fault(3, "class A of Object { static s ( ) none 0 { load @0 } }");
        c.fault(3, "class A of Object { static s ( ) none 0 { pop back } } @ ; tokens only");
    }

    private static void numbersOfInstructions(Checks c) {
        // Main stands between two classes, and main behind another body of its class.
        ObjectMachine x = Checks.loaded("class A of Object { static s ( ) none 0 { a : push 1 pop goto a } } "
            + "class Main of Object { method m ( ) int 1 { x : push 1 give } static main ( ) none 0 { y : z : push 1 push 2 w : push 3 back } } "
            + "class B of Object { static s ( ) none 0 { push 1 pop back } }");
        int[] due = {0, 1, 0, 0, 1, 0, 1, 2, 3, 0, 1, 0, -1};
        for (int i = 0; i < due.length; i++) {
            c.due("height(" + i + ")", x.height(i), due[i]);
        }
        int[] places = {5, 6, 7, 8};
        for (int fuel = 0; fuel < 4; fuel++) {
            x.run(fuel);
            c.due("place with fuel " + fuel, x.place(), places[fuel]);
        }
    }
}
