import java.util.Arrays;

/** The sentences of "Terms" 4: heights and types. */
public final class TypesSentencesTest {
    private static final String CLASSES = "class A of Object { field f A field n int method m ( A int ) A 3 { null give } method v ( ) none 1 { back } } "
        + "class B of A { field g int[] } class C of A { } class E of Error { field k int } "
        + "class S of Object { static take ( A int ) int 2 { push 1 give } static any ( ) Object 0 { null give } static none ( ) none 0 { back } "
        + "static ofA ( A ) none 1 { back } static ofB ( B ) none 1 { back } static ofObject ( Object ) none 1 { back } "
        + "static ofE ( Error ) none 1 { back } static ofInts ( int[] ) none 1 { back } static ofAs ( A[] ) none 1 { back } "
        + "static ofBs ( B[] ) none 1 { back } static ofObjects ( Object[] ) none 1 { back } } ";
    private static final String EIGHT = "push 1 push 2 push 3 push 4 push 5 push 6 push 7 push 8 ";

    public static void main(String[] args) {
        Sentences sentences = new Sentences();
        all(sentences);
        sentences.run("TypesSentencesTest", args);
    }

    static void all(Sentences s) {
        s.says("4 TYPES (fault 4, at the instruction's word;", TypesSentencesTest::atTheWord);
        s.says("body by body in the order of the text, in each first heights, then types).", TypesSentencesTest::order);
        s.says("EDGES go from an instruction to the next one (but not from goto, throw, give, back),", TypesSentencesTest::edgesToTheNext);
        s.says("to its label,", TypesSentencesTest::edgesToLabels);
        s.says("and from each instruction of FROM up to before TO of a catch to AT.", TypesSentencesTest::edgesToHandlers);
        instructions(s);
        heights(s);
        types(s);
        rules(s);
    }

    private static void instructions(Sentences s) {
        s.says("INSTRUCTIONS take and leave on the stack: (a b: c is a, and above it b, taken, c left)", TypesSentencesTest::orderOfTaken);
        s.says("push, read ( : int)", c -> {
            takes(c, "push 5", 1);
            takes(c, "read", 1);
            leaves(c, "push 5", "write");
            leaves(c, "read", "write");
            fault(c, "push 5 @isnull end end : back");
            fault(c, "read @isnull end end : back");
            c.ran(in("push 5 push 6 write write back"), 0, 6, 5);
        });
        s.says("null ( : null)", c -> {
            takes(c, "null", 1);
            leaves(c, "null", "call S.ofA");
            leaves(c, "null", "call S.ofInts");
            fault(c, "null @write back");
            c.ran(in("push 5 null isnull a back a : write back"), 0, 5);
        });
        s.says("load (: the local's type)", TypesSentencesTest::loads);
        s.says("store, pop (a: )", c -> {
            takes(c, "store 0", 0, "push 1");
            takes(c, "pop", 0, "push 1");
            takes(c, "pop", 0, "null");
            leaves(c, "new B store 0 load 0", "get B.g pop");
            fault(c, "push 1 store 0 @load 1 pop back");
            fault(c, "null push 1 pop @write back");
            c.ran(in("push 5 push 6 push 7 pop store 0 write load 0 write back"), 0, 5, 6);
        });
        s.says("dup (a: a a)", c -> {
            takes(c, "dup", 2, "push 1");
            leaves(c, "push 1 dup", "write write");
            leaves(c, "new B dup", "get B.g pop get B.g pop");
            fault(c, "push 1 dup @isnull end end : back");
            fault(c, "push 1 dup pop @isnull end end : back");
            fault(c, "new A dup @get B.g pop back");
            c.ran(in("push 5 push 6 dup write write write back"), 0, 6, 6, 5);
        });
        s.says("swap (a b: b a)", c -> {
            takes(c, "swap", 2, "push 1", "null");
            leaves(c, "push 1 null swap", "write get B.g pop");
            leaves(c, "new B push 1 swap", "get B.g pop write");
            fault(c, "push 1 null swap @isnull end end : back");
            fault(c, "push 1 null swap pop @write back");
            c.ran(in("push 4 push 5 push 6 swap write write write back"), 0, 5, 6, 4);
            c.ran(in("new A push 5 swap get A.n write write back"), 0, 0, 5);
            c.ran(in("push 5 new A swap write get A.n write back"), 0, 5, 0);
        });
        s.says("add .. shr (int int: int)", c -> calculations(c, "add sub mul div rem and or xor shl shr"));
        s.says("neg (int: int)", c -> {
            takes(c, "neg", 1, "push 1");
            refuses(c, "neg", 0, "null,new A", "push 1");
            leaves(c, "push 1 neg", "write");
        });
        s.says("eq .. ge (int int: )", c -> {
            for (String op : "eq ne lt le gt ge".split(" ")) {
                takes(c, op + " end", 0, "push 1", "push 2");
                refuses(c, op + " end", 0, "null,new A", "push 1", "push 2");
                refuses(c, op + " end", 1, "null,new A", "push 1", "push 2");
                fault(c, "push 7 push 1 push 2 " + op + " a back a : @isnull end end : back");
            }
            keeps(c, "push 1 push 1 eq", "push 1 push 1 ne");
        });
        s.says("isnull, notnull (ref: )", c -> {
            for (String op : "isnull notnull".split(" ")) {
                for (String ref : new String[] {"null", "new A", "new Object", "push 1 array int", "push 1 array A"}) {
                    takes(c, op + " end", 0, ref);
                }
                refuses(c, op + " end", 0, "push 1", "null");
                fault(c, "push 7 null " + op + " a back a : @isnull end end : back");
            }
            keeps(c, "null isnull", "null notnull");
            keeps(c, "new A notnull", "new A isnull");
        });
        s.says("same, other (ref ref: )", c -> {
            for (String op : "same other".split(" ")) {
                takes(c, op + " end", 0, "null", "push 1 array int");
                takes(c, op + " end", 0, "new A", "new E");
                refuses(c, op + " end", 0, "push 1", "null", "null");
                refuses(c, op + " end", 1, "push 1", "null", "null");
                fault(c, "push 7 null null " + op + " a back a : @isnull end end : back");
            }
            keeps(c, "null null same", "null null other");
            keeps(c, "new A null other", "new A null same");
        });
        s.says("new (: C)", c -> {
            takes(c, "new A", 1);
            leaves(c, "new B", "get B.g pop");
            fault(c, "new A @get B.g pop back");
            fault(c, "new A @write back");
        });
        s.says("array (int: E[])", c -> {
            takes(c, "array int", 1, "push 1");
            takes(c, "array A", 1, "push 1");
            refuses(c, "array int", 0, "null,new A", "push 1");
            leaves(c, "push 1 array int", "call S.ofInts");
            leaves(c, "push 1 array A", "call S.ofAs");
            fault(c, "push 1 array A @call S.ofInts back");
            fault(c, "push 1 array A @call S.ofBs back");
        });
        s.says("length (array: int)", c -> {
            takes(c, "length", 1, "push 1 array int");
            takes(c, "length", 1, "push 1 array A");
            takes(c, "length", 1, "null");
            refuses(c, "length", 0, "push 1,new A,new Object", "null");
            leaves(c, "null length", "write");
        });
        moreInstructions(s);
    }

    private static void moreInstructions(Sentences s) {
        s.says("aload (array int: its element)", c -> {
            takes(c, "aload", 1, "push 1 array int", "push 0");
            takes(c, "aload", 1, "push 1 array A", "push 0");
            refuses(c, "aload", 0, "push 1,new A,new Object", "null", "push 0");
            refuses(c, "aload", 1, "null,new A", "push 1 array int", "push 0");
            leaves(c, "push 1 array int push 0 aload", "write");
            leaves(c, "push 1 array B push 0 aload", "get B.g pop");
            fault(c, "push 1 array A push 0 aload @get B.g pop back");
        });
        s.says("astore (array int element: )", c -> {
            takes(c, "astore", 0, "push 1 array int", "push 0", "push 5");
            takes(c, "astore", 0, "push 1 array A", "push 0", "new B");
            takes(c, "astore", 0, "push 1 array A", "push 0", "null");
            refuses(c, "astore", 0, "push 1,new A,new Object", "push 1 array int", "push 0", "push 5");
            refuses(c, "astore", 1, "null,new A", "push 1 array int", "push 0", "push 5");
            refuses(c, "astore", 2, "null,new A", "push 1 array int", "push 0", "push 5");
            refuses(c, "astore", 2, "push 1,new Object,new E", "push 1 array A", "push 0", "null");
        });
        s.says("get (C: the field's type)", c -> {
            takes(c, "get A.f", 1, "new A");
            takes(c, "get A.n", 1, "new B");
            takes(c, "get A.f", 1, "null");
            refuses(c, "get A.f", 0, "push 1,new Object,new E,push 1 array A", "new A");
            leaves(c, "new A get A.n", "write");
            leaves(c, "new B get B.g", "call S.ofInts");
            fault(c, "new A get A.f @get B.g pop back");
        });
        s.says("put (C type: )", c -> {
            takes(c, "put A.f", 0, "new A", "new B");
            takes(c, "put A.f", 0, "null", "null");
            takes(c, "put A.n", 0, "new B", "push 1");
            refuses(c, "put A.f", 0, "push 1,new Object,push 1 array A", "new A", "null");
            refuses(c, "put A.f", 1, "push 1,new Object,push 1 array A", "new A", "null");
            refuses(c, "put A.n", 1, "null,new A", "new A", "push 1");
        });
        s.says("cast (ref: T)", c -> {
            takes(c, "cast A", 1, "new Object");
            takes(c, "cast int[]", 1, "null");
            refuses(c, "cast A", 0, "push 1", "null");
            leaves(c, "new A cast B", "get B.g pop");
            leaves(c, "null cast int[]", "call S.ofInts");
            fault(c, "null cast Object @get A.f pop back");
        });
        s.says("is (ref: int)", c -> {
            takes(c, "is A", 1, "new Object");
            takes(c, "is int[]", 1, "null");
            refuses(c, "is A", 0, "push 1", "null");
            leaves(c, "null is A", "write");
        });
        s.says("call (types: result)", c -> {
            takes(c, "call S.take", 1, "new A", "push 1");
            takes(c, "call S.ofA", 0, "new B");
            takes(c, "call S.none", 0);
            takes(c, "call S.any", 1);
            refuses(c, "call S.take", 0, "push 1,new Object,push 1 array A", "new A", "push 1");
            refuses(c, "call S.take", 1, "null,new A", "new A", "push 1");
            leaves(c, "null push 1 call S.take", "write");
            fault(c, "call S.any @get A.f pop back");
        });
        s.says("send (C types: result)", c -> {
            takes(c, "send A.m", 1, "new A", "null", "push 1");
            takes(c, "send B.m", 1, "new B", "new C", "push 1");
            takes(c, "send A.v", 0, "null");
            refuses(c, "send A.m", 0, "push 1,new Object,push 1 array A", "new A", "null", "push 1");
            refuses(c, "send A.m", 1, "push 1,new Object,push 1 array A", "new A", "null", "push 1");
            refuses(c, "send A.m", 2, "null,new A", "new A", "null", "push 1");
            leaves(c, "null null push 1 send B.m", "get A.f pop");
            fault(c, "null null push 1 send B.m @get B.g pop back");
        });
        s.says("throw (Error: )", c -> {
            for (String error : "null,new Error,new E,new StoreError".split(",")) {
                right(c, error + " throw");
                right(c, "push 1 " + error + " throw");
            }
            fault(c, "@throw");
            for (String wrong : "push 1,new Object,new A,push 1 array Error".split(",")) {
                fault(c, wrong + " @throw");
            }
        });
        s.says("give (result: )", c -> {
            gives(c, "int", "push 1 give", "push 2 null push 1 give", "@give", "null @give", "push 1 null @give");
            gives(c, "A", "null give", "new B give", "@give", "push 1 @give", "new Object @give");
        });
        s.says("write (int: )", c -> {
            takes(c, "write", 0, "push 1");
            refuses(c, "write", 0, "null,new A", "push 1");
        });
        s.says("inc, goto, back nothing.", c -> {
            right(c, "goto a a : back");
            right(c, EIGHT + "goto a a : back");
            right(c, "push 1 store 0 inc 0 1 back");
            right(c, "push 1 store 0 " + EIGHT + "inc 0 1 back");
            right(c, EIGHT + "back");
            c.due("height behind inc", heightOfLast(in("push 1 store 0 null inc 0 1 back")), 1);
            c.due("height behind goto", heightOfLast(in("null goto a a : back")), 1);
        });
        s.says("C is the class of F.", c -> {
            // The class that is told, not the one that has the member.
            right(c, "new A get A.f pop back");
            fault(c, "new A @get B.f pop back");
            fault(c, "new A null @put B.f back");
            fault(c, "new A @send B.v back");
            right(c, "new B get B.f pop new B null put B.f new B send B.v back");
        });
    }

    private static void heights(Sentences s) {
        s.says("HEIGHTS: a body begins with 0;", TypesSentencesTest::beginsWithNothing);
        s.says("along edges 0 .. 8,", TypesSentencesTest::upToEight);
        s.says("and at a catch's AT 1.", TypesSentencesTest::oneAtHandlers);
        s.says("It is a fault at an instruction if two different heights come to it,", TypesSentencesTest::twoHeights);
        s.says("or one from which it takes what is not there,", TypesSentencesTest::tooFew);
        s.says("or leaves more than 8", TypesSentencesTest::tooMany);
        s.says("(such a height goes on nowhere, not to a catch either).", TypesSentencesTest::goesOnNowhere);
    }

    private static void types(Sentences s) {
        s.says("TYPES are int, null, classes, arrays int[] and C[] (REF: all but int), and UNSET.", TypesSentencesTest::kinds);
        s.says("Null is BELOW all refs,", c -> below(c, "null", "ofA ofB ofObject ofE ofInts ofAs ofBs ofObjects"));
        s.says("a class below those above it,", c -> {
            below(c, "new B", "ofA ofB ofObject");
            below(c, "new A", "ofA ofObject");
            below(c, "new C", "ofA ofObject");
            below(c, "new Object", "ofObject");
            below(c, "new E", "ofE ofObject");
            below(c, "new CastError", "ofE ofObject");
        });
        s.says("arrays below Object,", c -> {
            below(c, "push 1 array int", "ofObject ofInts");
            below(c, "push 1 array E", "ofObject ofObjects");
        });
        s.says("C[] below D[] for C below D,", c -> {
            below(c, "push 1 array B", "ofObject ofAs ofBs ofObjects");
            below(c, "push 1 array A", "ofObject ofAs ofObjects");
            below(c, "push 1 array Object", "ofObject ofObjects");
            below(c, "push 1 array C", "ofObject ofAs ofObjects");
        });
        s.says("each below itself,", c -> {
            for (String pair : "new A:ofA,new B:ofB,new Object:ofObject,new Error:ofE,push 1 array int:ofInts,push 1 array A:ofAs".split(",")) {
                right(c, pair.split(":")[0] + " call S." + pair.split(":")[1] + " back");
            }
            right(c, "push 1 push 1 add write back");
        });
        s.says("all below UNSET.", c -> {
            for (String one : ALL_KINDS) {
                right(c, one + " pop " + one + " dup swap store 0 pop back");
                joins(c, one, one.equals("push 1") ? "null" : "push 1", "pop", "@write");
                joins(c, one, one.equals("push 1") ? "null" : "push 1", "store 0", "store 0 @load 0 pop");
            }
        });
        s.says("Two types JOIN to the least that is above both.", TypesSentencesTest::joinsOfTypes);
        s.says("At the beginning of a body the parameters (for a method first its class) are the locals from 0 on,",
            TypesSentencesTest::parameters);
        s.says("the others are UNSET.", TypesSentencesTest::unsetLocals);
        s.says("Along each edge go the locals and the stack behind the instruction", TypesSentencesTest::behindInstructions);
        s.says("(to AT: the locals before it, and CLASS alone);", TypesSentencesTest::toHandlers);
        s.says("what comes to an instruction joins (the least such solution).", TypesSentencesTest::leastSolution);
        s.says("Results are as told, whatever was taken;", TypesSentencesTest::resultsAsTold);
        s.says("aload leaves the element of an array type,", c -> {
            joins(c, "push 1 array B", "push 1 array C", "push 0 aload get A.f pop", "push 0 aload @get B.g pop");
            joins(c, "push 1 array int", "null", "push 0 aload write", "push 0 aload @get A.f pop");
        });
        s.says("of null it goes on nowhere (but to catches),", TypesSentencesTest::elementsOfNull);
        s.says("else UNSET.", TypesSentencesTest::elementsOfOthers);
    }

    private static void rules(Sentences s) {
        s.says("It is a fault at an instruction that is come to if one of these does not hold:", TypesSentencesTest::unreached);
        s.says("load: not UNSET;", c -> {
            fault(c, "@load 0 pop back");
            fault(c, "push 1 store 1 @load 0 pop back");
            right(c, "push 1 store 0 load 0 pop back");
            right(c, "null store 0 load 0 pop back");
            joins(c, "push 1", "null", "store 0", "store 0 @load 0 pop");
        });
        s.says("what is taken is below what is told", TypesSentencesTest::belowTold);
        s.says("(array: null or an array type;", c -> {
            for (String op : "length pop,push 0 aload pop,push 0 null astore".split(",")) {
                String marked = op.replace("length", "@length").replace("aload", "@aload").replace("astore", "@astore");
                right(c, "null " + op + " back");
                right(c, "push 1 array A " + op + " back");
                for (String wrong : "push 1,new A,new Object".split(",")) {
                    fault(c, wrong + " " + marked + " back");
                }
                joins(c, "push 1 array A", "null", op, "@write");
                // Object, though arrays alone have come to it.
                joins(c, "push 1 array A", "push 1 array int", "pop", marked);
            }
            right(c, "push 1 array int length pop push 1 array int push 0 aload pop back");
        });
        s.says("the element of astore: below the array's element,", TypesSentencesTest::elementsStored);
        s.says("behind null anything but UNSET;", c -> {
            for (String value : ALL_KINDS) {
                right(c, "null push 0 " + value + " astore back");
            }
            fault(c, "null push 0 read read eq a push 1 goto b a : null b : @astore back");
        });
        s.says("of give below the body's result;", c -> {
            gives(c, "Object", "push 1 array int give", "null give", "new B give", "push 1 @give");
            gives(c, "A", "new A give", "new B give", "null give", "new Object @give", "new E @give", "push 1 array A @give");
            gives(c, "A[]", "push 1 array B give", "null give", "push 1 array Object @give", "push 1 array int @give", "new A @give");
            gives(c, "int[]", "push 1 array int give", "null give", "push 1 array A @give", "push 1 @give");
            gives(c, "int", "push 1 give", "null @give", "read read eq a null goto b a : push 1 b : @give");
        });
        s.says("store, pop, dup, swap: anything);", c -> {
            for (String value : ALL_KINDS) {
                right(c, value + " dup swap pop store 0 back");
            }
            // Also what is unset.
            right(c, "read read eq a null goto b a : push 1 b : dup swap pop dup store 0 pop back");
        });
        s.says("inc: the local is int;", c -> {
            right(c, "push 1 store 0 inc 0 1 back");
            fault(c, "@inc 0 1 back");
            for (String value : ALL_KINDS) {
                if (!value.equals("push 1")) {
                    fault(c, value + " store 0 @inc 0 1 back");
                    fault(c, value + " store 0 push 1 store 1 @inc 0 1 back");
                }
            }
            joins(c, "push 1", "push 2", "store 0 inc 0 1", "store 0 load 0 pop @inc 1 1");
            joins(c, "push 1", "null", "store 0", "store 0 @inc 0 1");
        });
        s.says("give in a body with a result,", c -> {
            fault(c, "push 1 @give");
            fault(c, "null @give");
            gives(c, "int", "push 1 give");
            gives(c, "none", "back", "push 1 @give", "null @give");
        });
        s.says("back in one with none.", c -> {
            right(c, "back");
            gives(c, "none", "back", "push 1 back");
            gives(c, "int", "@back", "push 1 @back");
            gives(c, "Object", "@back", "null @back");
        });
    }

    // ---- helpers

    private static final String[] ALL_KINDS = {"push 1", "null", "new A", "new Object", "push 1 array int", "push 1 array A"};

    /** A program that has these lines in main, and main as its last body; the label end stands before its last back. */
    private static String in(String lines) {
        return Checks.main(2, lines, "", CLASSES);
    }

    private static void right(Checks c, String lines) {
        c.right(in(lines));
    }

    private static void fault(Checks c, String lines) {
        c.fault(4, in(lines));
    }

    private static int heightOfLast(String text) {
        ObjectMachine x = Checks.loaded(text);
        return x.height(x.size(0) - 1);
    }

    /** An instruction over just these values is right and leaves so many; with the lowest gone it is wrong, as above 8. */
    private static void takes(Checks c, String op, int left, String... values) {
        String text = in(String.join(" ", values) + " " + op + " end : back");
        c.right(text);
        c.due("height behind " + text, heightOfLast(text), left);
        if (values.length > 0) {
            fault(c, String.join(" ", Arrays.copyOfRange(values, 1, values.length)) + " @" + op + " end : back");
        }
        int free = 8 - values.length;
        String deep = in(EIGHT.substring(0, free * "push 1 ".length()) + String.join(" ", values) + (left > values.length ? " @" : " ") + op
            + " end : back");
        // An array takes a value more while it is made.
        if (!String.join(" ", values).contains("array") || free == 0) {
            c.fault(left > values.length ? 4 : 0, deep);
        }
    }

    /** With another value at one place it is wrong. */
    private static void refuses(Checks c, String op, int at, String others, String... values) {
        for (String other : others.split(",")) {
            String[] wrong = values.clone();
            wrong[at] = other;
            fault(c, String.join(" ", wrong) + " @" + op + " end : back");
        }
    }

    /** A jump that is made and one that is not leave what lies below the values that they take. */
    private static void keeps(Checks c, String made, String notMade) {
        c.ran(in("push 7 push 8 " + made + " a back a : write write back"), 0, 8, 7);
        c.ran(in("push 7 push 8 " + notMade + " a write write back a : back"), 0, 8, 7);
    }

    /** What has been left can be used so. */
    private static void leaves(Checks c, String lines, String use) {
        right(c, lines + " " + use + " back");
    }

    /** Bodies with this result, of which those with the sign @ are wrong there. */
    private static void gives(Checks c, String result, String... bodies) {
        for (String body : bodies) {
            String text = Checks.main(0, "back", "static s ( ) " + result + " 1 { " + body + " }", CLASSES);
            c.fault(body.contains("@") ? 4 : 0, text);
        }
    }

    /** One or the other value comes to the same place: the first lines behind it are right, the second ones wrong. */
    private static void joins(Checks c, String one, String two, String rightLines, String wrongLines) {
        for (int turn = 0; turn < 2; turn++) {
            String begin = "read read eq a " + (turn == 0 ? one : two) + " goto b a : " + (turn == 0 ? two : one) + " b : ";
            right(c, begin + rightLines + " back");
            fault(c, begin + wrongLines + " back");
        }
    }

    /** A value may be handed to these bodies, and to no other one of the kind. */
    private static void below(Checks c, String value, String names) {
        for (String name : "ofA ofB ofObject ofE ofInts ofAs ofBs ofObjects".split(" ")) {
            boolean right = (" " + names + " ").contains(" " + name + " ");
            c.fault(right ? 0 : 4, in(value + (right ? " " : " @") + "call S." + name + " back"));
        }
    }

    private static void calculations(Checks c, String ops) {
        for (String op : ops.split(" ")) {
            takes(c, op, 1, "push 1", "push 2");
            refuses(c, op, 0, "null,new A", "push 1", "push 2");
            refuses(c, op, 1, "null,new A", "push 1", "push 2");
            leaves(c, "push 1 push 2 " + op, "write");
        }
    }

    // ---- the order, and edges

    private static void atTheWord(Checks c) {
        fault(c, "push 1 @call S.ofA back");
        fault(c, "a : b : @inc 0 1 back");
        fault(c, "a : null @eq a back");
        c.fault(4, Checks.main(0, "@pop back"));
        c.loads(Checks.main(0, "push 1 null add back"), 4, 15);
    }

    private static void order(Checks c) {
        // The first body, though the second one's fault is of heights.
        c.fault(4, Checks.main(1, "@load 0 pop back", "static s ( ) none 0 { pop back }", ""));
        c.fault(4, "class A of Object { static s ( ) none 1 { @load 0 pop back } } " + Checks.main(0, "pop back"));
        c.fault(4, Checks.main(1, "back", "static s ( ) none 0 { @pop back } static t ( ) none 0 { pop back }", ""));
        // In a body heights first, though the fault of types stands before.
        fault(c, "load 0 pop @pop back");
        fault(c, "null write read read eq a push 1 a : @back");
        // Then the first in the text, whatever the order in which they are come to.
        fault(c, "goto b a : @load 0 pop back b : load 1 pop goto a");
        fault(c, "goto b a : @pop back b : read read eq a pop back");
    }

    private static int[] heightsOf(String lines) {
        ObjectMachine x = Checks.loaded(Checks.main(1, lines));
        int[] all = new int[Math.max(x.size(0), 0)];
        for (int i = 0; i < all.length; i++) {
            all[i] = x.height(i);
        }
        return all;
    }

    private static void heights(Checks c, String lines, int... due) {
        int[] got = heightsOf(lines);
        c.due("instructions of " + lines, got.length, due.length);
        for (int i = 0; i < due.length && i < got.length; i++) {
            c.due("height(" + i + ") of " + lines, got[i], due[i]);
        }
    }

    private static void edgesToTheNext(Checks c) {
        heights(c, "push 1 push 2 swap add pop read write back", 0, 1, 2, 2, 1, 0, 1, 0);
        heights(c, "goto a pop a : back", 0, -1, 0);
        heights(c, "null throw pop back", 0, 1, -1, -1);
        heights(c, "back pop back", 0, -1, -1);
        heights(c, "push 1 push 1 eq a null a2 : pop back a : back", 0, 1, 2, 0, 1, 0, 0);
        ObjectMachine x = Checks.loaded(Checks.main(0, "back", "static s ( ) int 0 { push 1 give pop back }", ""));
        c.due("height behind give", x.height(3), -1);
    }

    private static void edgesToLabels(Checks c) {
        heights(c, "push 1 goto a pop a : pop back", 0, 1, -1, 1, 0);
        for (String op : "eq ne lt le gt ge".split(" ")) {
            heights(c, "push 7 push 1 push 2 " + op + " a pop back a : write back", 0, 1, 2, 3, 1, 0, 1, 0);
        }
        for (String op : "isnull notnull".split(" ")) {
            heights(c, "push 7 null " + op + " a pop back a : write back", 0, 1, 2, 1, 0, 1, 0);
        }
        for (String op : "same other".split(" ")) {
            heights(c, "push 7 null null " + op + " a pop back a : write back", 0, 1, 2, 3, 1, 0, 1, 0);
        }
        // Types go there too.
        fault(c, "a : b : @load 0 pop read read eq a back");
        fault(c, "goto a back a : @load 0 pop back");
    }

    private static void edgesToHandlers(Checks c) {
        // From FROM on: the local is unset before its store.
        fault(c, "a : push 1 store 0 b : back c : pop @load 0 pop back catch a b c Error");
        fault(c, "push 1 a : store 0 b : back c : pop @load 0 pop back catch a b c Error");
        right(c, "push 1 store 0 a : push 1 pop b : back c : pop load 0 pop back catch a b c Error");
        // Up to before TO: what is stored last does not come there.
        right(c, "push 1 store 0 a : null b : store 0 back c : pop load 0 write back catch a b c Error");
        fault(c, "push 1 store 0 a : null store 0 push 1 pop b : back c : pop @load 0 write back catch a b c Error");
        right(c, "push 1 store 0 null a : store 0 b : back c : pop load 0 write back catch a b c Error");
        // Each of them: one in the middle is enough.
        fault(c, "push 1 store 0 a : null store 0 push 1 store 0 b : back c : pop @load 0 write back catch a b c Error");
        // None of them come to: nothing comes to the handler.
        heights(c, "back a : pop b : back c : pop back catch a b c Error", 0, -1, -1, -1, -1);
    }

    private static void orderOfTaken(Checks c) {
        right(c, "new A push 1 put A.n back");
        fault(c, "push 1 new A @put A.n back");
        right(c, "push 1 array int push 0 push 5 astore back");
        fault(c, "push 0 push 1 array int push 5 @astore back");
        right(c, "new A push 1 call S.take pop back");
        fault(c, "push 1 new A @call S.take pop back");
        // What lies below is not touched.
        right(c, "null push 7 push 1 push 2 add write write get B.g pop back");
    }

    private static void loads(Checks c) {
        for (String value : ALL_KINDS) {
            c.due("height behind load of " + value, heightOfLast(in(value + " store 0 load 0 back")), 1);
        }
        leaves(c, "push 1 store 0 load 0", "write");
        leaves(c, "new B store 0 load 0", "get B.g pop");
        leaves(c, "null store 0 load 0", "call S.ofInts");
        leaves(c, "push 1 array B store 0 load 0", "call S.ofBs");
        fault(c, "new A store 0 load 0 @get B.g pop back");
        fault(c, "push 1 store 0 load 0 @isnull end end : back");
        c.ran(in("push 5 store 0 push 6 store 1 load 0 write load 1 write load 0 write back"), 0, 5, 6, 5);
        fault(c, "push 1 store 0 " + EIGHT + "@load 0 back");
        right(c, "push 1 store 0 " + EIGHT + "pop load 0 back");
    }

    // ---- heights

    private static void beginsWithNothing(Checks c) {
        c.due("height(0)", Checks.loaded(Checks.main(0, "back")).height(0), 0);
        fault(c, "@pop back");
        // Also in a body that takes values: they are in locals.
        c.fault(4, Checks.main(0, "back", "static s ( int int ) none 2 { @pop back }", ""));
        c.fault(4, Checks.main(0, "back", "method m ( ) none 1 { @pop back }", ""));
        ObjectMachine x = Checks.loaded(Checks.main(0, "back", "static s ( int int ) none 2 { push 1 back }", ""));
        c.due("height(1)", x.height(1), 0);
    }

    private static void upToEight(Checks c) {
        heights(c, EIGHT + "goto a a : pop pop pop pop pop pop pop pop back",
            0, 1, 2, 3, 4, 5, 6, 7, 8, 8, 7, 6, 5, 4, 3, 2, 1, 0);
        right(c, EIGHT + "back");
        right(c, EIGHT + "add back");
        right(c, EIGHT + "swap back");
        right(c, EIGHT + "neg back");
        fault(c, EIGHT + "@push 9 back");
    }

    private static void oneAtHandlers(Checks c) {
        heights(c, "a : push 1 push 2 push 3 b : back c : pop back catch a b c Error", 0, 1, 2, 3, 1, 0);
        heights(c, EIGHT + "a : add b : back c : pop back catch a b c Error", 0, 1, 2, 3, 4, 5, 6, 7, 8, 7, 1, 0);
        fault(c, "a : push 1 pop b : back c : pop @pop back catch a b c Error");
        fault(c, "a : push 1 pop b : c : @back catch a b c Error");
        right(c, "new Error goto c a : push 1 pop b : back c : pop goto a catch a b c Error");
        fault(c, "a : @push 1 pop b : back catch a b a Error");
    }

    private static void twoHeights(Checks c) {
        fault(c, "read read eq a push 1 a : @back");
        fault(c, "a : @push 1 goto a");
        fault(c, "read read eq a push 1 goto b a : push 1 push 2 b : @back");
        right(c, "read read eq a push 1 goto b a : null b : back");
        right(c, "a : push 1 pop goto a");
        // Both go on, each by itself, to what stands before in the text.
        fault(c, "goto x y : @pop back x : read read eq a push 1 push 2 goto b a : push 1 b : goto y");
        fault(c, "goto x y : @pop pop back x : read read eq a push 1 push 2 push 3 goto b a : push 1 push 2 b : goto y");
        fault(c, "goto x y : @back x : read read eq a push 1 a : goto y");
    }

    private static void tooFew(Checks c) {
        for (String op : "pop,dup,neg,write,throw,length,store 0,isnull a,notnull a,array int,get A.f,cast A,is A,call S.ofA,send A.v".split(",")) {
            fault(c, "a : @" + op + " back");
        }
        for (String op : ("swap,add,sub,mul,div,rem,and,or,xor,shl,shr,eq a,ne a,lt a,le a,gt a,ge a,same a,other a,aload,put A.f,"
            + "call S.take").split(",")) {
            fault(c, "push 1 @" + op + " a : back");
        }
        fault(c, "push 1 push 2 @astore back");
        fault(c, "null null @send A.m pop back");
        gives(c, "int", "@give");
        // More types than a stack has room for.
        c.fault(4, Checks.main(0, EIGHT + "@call Main.nine back", "static nine ( " + Checks.times(9, "int ") + ") none 9 { back }", ""));
        c.right(Checks.main(0, EIGHT + "call Main.eight back", "static eight ( " + Checks.times(8, "int ") + ") none 8 { back }", ""));
    }

    private static void tooMany(Checks c) {
        for (String op : "push 9,read,null,dup,new A,call S.any".split(",")) {
            fault(c, EIGHT + "@" + op + " back");
            right(c, EIGHT + "pop " + op + " back");
        }
        fault(c, "push 1 store 0 " + EIGHT + "@load 0 back");
        // What takes as many as it leaves, or more, may do so at 8.
        right(c, "push 1 push 2 push 3 push 4 push 5 push 6 null push 8 call S.take back");
        right(c, "null null null null null null null null get A.f back");
        right(c, EIGHT + "call S.none back");
    }

    private static void goesOnNowhere(Checks c) {
        // If it went on, the instruction before it in the text would be at fault.
        fault(c, "goto x y : pop pop back x : @pop goto y");
        fault(c, "goto x y : pop pop pop back x : push 1 @add goto y");
        fault(c, "goto x y : back x : " + EIGHT + "@dup goto y");
        fault(c, "goto x y : add back x : @isnull y back");
        // Not to a catch either.
        fault(c, "goto x c : pop pop back x : a : @pop b : back catch a b c Error");
        fault(c, "goto x c : pop pop back x : " + EIGHT + "a : @dup b : back catch a b c Error");
        fault(c, "goto x c : pop @pop back x : push 1 a : pop b : back catch a b c Error");
        // One of two heights may go on all the same, and the other one not.
        fault(c, "goto x y : back x : push 1 push 2 push 3 push 4 push 5 push 6 read read eq a push 7 goto b a : push 7 push 8 b : @dup goto y");
        fault(c, "goto x y : @pop pop back x : read read eq a push 1 a : pop goto y");
        fault(c, "goto x c : pop @pop back x : read read eq a push 1 a : pop b : back catch a b c Error");
    }

    // ---- types

    private static void kinds(Checks c) {
        for (String value : ALL_KINDS) {
            boolean isInt = value.equals("push 1");
            c.fault(isInt ? 4 : 0, in(value + (isInt ? " @" : " ") + "isnull end end : back"));
            c.fault(isInt ? 0 : 4, in(value + (isInt ? " " : " @") + "write back"));
        }
        // Unset is no ref, and no int.
        fault(c, "read read eq a null goto b a : push 1 b : @isnull end end : back");
        fault(c, "read read eq a null goto b a : push 1 b : @write back");
    }

    private static void joinsOfTypes(Checks c) {
        joins(c, "new B", "new C", "get A.f pop", "@get B.g pop");
        joins(c, "new B", "new A", "get A.f pop", "@get B.g pop");
        joins(c, "new B", "null", "get B.g pop", "@write");
        joins(c, "new B", "new B", "get B.g pop", "@get C.f pop");
        joins(c, "null", "null", "call S.ofInts", "@write");
        joins(c, "new B", "new E", "call S.ofObject", "@call S.ofA");
        joins(c, "new E", "new NullError", "call S.ofE", "@get E.k pop");
        joins(c, "push 1 array B", "push 1 array C", "call S.ofAs", "@call S.ofBs");
        joins(c, "push 1 array B", "push 1 array E", "call S.ofObjects", "@call S.ofAs");
        joins(c, "push 1 array B", "null", "call S.ofBs", "@call S.ofInts");
        joins(c, "push 1 array int", "null", "call S.ofInts", "@call S.ofAs");
        joins(c, "push 1 array int", "push 1 array int", "call S.ofInts", "@call S.ofObjects");
        joins(c, "push 1 array int", "push 1 array A", "call S.ofObject", "@call S.ofObjects");
        joins(c, "push 1 array A", "new A", "call S.ofObject", "@call S.ofA");
        joins(c, "push 1 array int", "new A", "call S.ofObject", "@length pop");
        joins(c, "push 1", "push 2", "write", "@isnull end end :");
        joins(c, "push 1", "null", "pop", "@write");
        joins(c, "push 1", "new A", "pop", "@call S.ofObject");
        joins(c, "push 1", "push 1 array int", "store 0", "store 0 @load 0 pop");
    }

    private static void inBody(Checks c, String head, String right, String wrong) {
        c.right(Checks.main(0, "back", head + " { " + right + " back }", CLASSES));
        c.fault(4, Checks.main(0, "back", head + " { " + wrong + " back }", CLASSES));
    }

    private static void parameters(Checks c) {
        inBody(c, "static s ( int A int[] B[] ) none 4", "inc 0 1 load 1 get A.f pop load 2 call S.ofInts load 3 call S.ofBs",
            "load 1 @get B.g pop");
        inBody(c, "static s ( int A ) none 2", "load 0 write", "load 1 @write");
        inBody(c, "method s ( int A ) none 3", "inc 1 1 load 2 get A.f pop load 0 null other e e :", "load 0 @write");
        inBody(c, "method s ( int A ) none 3", "load 0 isnull e e :", "load 1 @get A.f pop");
        c.right(Checks.main(0, "back", "method s ( ) Main 1 { load 0 give }", ""));
        c.fault(4, Checks.main(0, "back", "method s ( ) A 1 { load 0 @give }", CLASSES));
        inBody(c, "static s ( " + Checks.times(11, "int ") + "A ) none 12", "load 11 get A.f pop load 10 write", "load 11 @write");
    }

    private static void unsetLocals(Checks c) {
        for (int k = 0; k < 12; k++) {
            c.fault(4, Checks.main(12, "@load " + k + " pop back"));
            c.fault(4, Checks.main(12, "@inc " + k + " 1 back"));
        }
        inBody(c, "static s ( int A ) none 3", "load 0 write load 1 pop", "@load 2 pop");
        inBody(c, "method s ( ) none 2", "load 0 pop", "@load 1 pop");
    }

    private static void behindInstructions(Checks c) {
        right(c, "push 1 store 0 load 0 write null store 0 load 0 get B.g pop back");
        fault(c, "push 1 store 0 null store 0 load 0 @write back");
        right(c, "push 1 store 0 null store 1 goto a a : load 0 write load 1 get B.g pop back");
        right(c, "push 7 null push 1 push 2 eq a get B.g pop write back a : get C.f pop write back");
        fault(c, "push 7 null push 1 push 2 eq a get B.g pop write back a : @write pop back");
    }

    private static void toHandlers(Checks c) {
        // Before the store, not behind it.
        right(c, "push 0 store 0 null a : store 0 b : back c : pop load 0 write back catch a b c Error");
        fault(c, "push 0 store 0 null a : store 0 b : back c : pop load 0 @get A.f pop back catch a b c Error");
        fault(c, "push 0 a : store 0 b : back c : pop @load 0 pop back catch a b c Error");
        // The class of the catch, and nothing below it.
        right(c, "push 5 a : null pop b : back c : get E.k write back catch a b c E");
        fault(c, "push 5 a : null pop b : back c : @get E.k write back catch a b c Error");
        fault(c, "push 5 a : null pop b : back c : pop @pop back catch a b c E");
        fault(c, "push 5 a : null pop b : back c : @write back catch a b c E");
        // Two classes join.
        fault(c, "a : null pop b : back c : @get E.k write back catch a b c E catch a b c CastError");
        right(c, "a : null pop b : back c : call S.ofE back catch a b c E catch a b c CastError");
    }

    private static void leastSolution(Checks c) {
        // Round a loop: each round may bring another type, and none that does not come.
        right(c, "new B store 0 a : load 0 get A.f store 0 read read eq a back");
        fault(c, "new B store 0 a : load 0 @get B.g pop new A store 0 goto a");
        right(c, "new B store 0 a : load 0 get B.g pop new B store 0 goto a");
        right(c, "null store 0 a : load 0 get B.g pop goto a");
        fault(c, "null store 0 null store 1 a : load 1 @get B.g pop load 0 store 1 new C store 0 goto a");
        right(c, "null store 0 null store 1 a : load 1 get B.g pop load 0 store 1 new B store 0 goto a");
        fault(c, "push 1 store 0 a : @load 0 pop null store 0 goto a");
        // From local to local, one in each round: the last one is come to at last.
        StringBuilder lines = new StringBuilder();
        for (int k = 0; k < 12; k++) {
            lines.append("new B store " + k + " ");
        }
        lines.append("a : load 11 #call S.ofB ");
        for (int k = 11; k > 0; k--) {
            lines.append("load " + (k - 1) + " store " + k + " ");
        }
        lines.append("new * store 0 goto a");
        c.right(Checks.main(12, lines.toString().replace("#", "").replace('*', 'B'), "", CLASSES));
        c.fault(4, Checks.main(12, lines.toString().replace('#', '@').replace('*', 'A'), "", CLASSES));
    }

    private static void resultsAsTold(Checks c) {
        // If what is left depended on what was taken, the use before it in the text would be at fault.
        fault(c, "goto b a : write back b : null null @add goto a");
        fault(c, "goto b a : write back b : null @neg goto a");
        fault(c, "goto b a : write back b : push 1 @length goto a");
        fault(c, "goto b a : write back b : push 1 @is A goto a");
        fault(c, "goto b a : get A.f pop back b : push 1 @get A.f goto a");
        fault(c, "goto b a : get B.g pop back b : push 1 @cast B goto a");
        fault(c, "goto b a : write back b : push 1 null @call S.take goto a");
        fault(c, "goto b a : get A.f pop back b : push 1 push 1 push 1 @send A.m goto a");
        fault(c, "goto b a : call S.ofAs back b : null @array A goto a");
        fault(c, "goto b a : @write back b : push 1 get A.f goto a");
    }

    private static void elementsOfNull(Checks c) {
        // Behind it nothing is come to, so that nothing there is wrong; heights come there all the same.
        right(c, "null push 0 aload load 0 add write back");
        heights(c, "null push 0 aload load 0 add write back", 0, 1, 2, 1, 2, 1, 0);
        fault(c, "null push 0 aload @add back");
        // But to catches.
        fault(c, "a : null push 0 aload b : load 0 back c : pop @load 0 pop back catch a b c Error");
        fault(c, "null push 0 a : aload b : load 0 back c : pop @load 0 pop back catch a b c Error");
        right(c, "null push 0 a : aload b : load 0 back c : pop back catch a b c Error");
        // Null and an array are an array.
        joins(c, "push 1 array B", "null", "push 0 aload get B.g pop", "push 0 aload @write");
        // What it takes is looked at all the same.
        fault(c, "null null @aload load 0 back");
    }

    private static void elementsOfOthers(Checks c) {
        // The use stands before the wrong aload: unset suits neither use, but may be popped.
        for (String other : "new A,new Object,push 1".split(",")) {
            fault(c, "goto b a : @write back b : " + other + " push 0 aload goto a");
            fault(c, "goto b a : @isnull end end : back b : " + other + " push 0 aload goto a");
            fault(c, "goto b a : store 0 @load 0 pop back b : " + other + " push 0 aload goto a");
            fault(c, "goto b a : pop back b : " + other + " push 0 @aload goto a");
        }
    }

    // ---- rules

    private static void unreached(Checks c) {
        right(c, "back load 0 add inc 0 1 give");
        right(c, "goto a load 0 null add pop a : back");
        right(c, "null throw push 1 give");
        right(c, "back a : pop pop b : back c : load 0 write back catch a b c Error");
        right(c, "null push 0 aload load 0 add write back");
        fault(c, "read read eq a back a : @load 0 pop back");
        c.right(Checks.main(0, "back", "static s ( ) int 0 { push 1 give back } static t ( ) none 0 { back push 1 give }", ""));
        // A body that nothing calls is come to.
        c.fault(4, Checks.main(0, "back", "static s ( ) int 0 { null @give }", ""));
        c.fault(4, Checks.main(0, "back", "method m ( ) none 1 { @pop back }", ""));
    }

    private static void belowTold(Checks c) {
        right(c, "new B push 1 call S.take write new C new B put A.f new C null push 2 send A.m pop new E throw");
        fault(c, "new Object push 1 @call S.take write back");
        fault(c, "new A @call S.ofB back");
        fault(c, "new A new Object @put A.f back");
        fault(c, "new Object null push 1 @send A.m pop back");
        fault(c, "new A @throw");
        fault(c, "push 1 array A @call S.ofBs back");
        right(c, "push 1 array B call S.ofAs back");
    }

    private static void elementsStored(Checks c) {
        right(c, "push 1 array int push 0 push 5 astore push 1 array A push 0 new A astore push 1 array A push 0 new B astore back");
        right(c, "push 1 array A push 0 null astore push 1 array Object push 0 push 1 array int astore back");
        fault(c, "push 1 array int push 0 null @astore back");
        fault(c, "push 1 array int push 0 new A @astore back");
        fault(c, "push 1 array A push 0 push 1 @astore back");
        fault(c, "push 1 array A push 0 new Object @astore back");
        fault(c, "push 1 array B push 0 new A @astore back");
        fault(c, "push 1 array A push 0 push 1 array A @astore back");
        fault(c, "push 1 array Object push 0 push 1 @astore back");
        joins(c, "push 1 array B", "push 1 array C", "push 0 new A astore", "push 0 new Object @astore");
    }
}
