/** Promise 4, the fault 4: heights and types; and promise 7, the height at each instruction. */
public final class TypesTest {
    private static final Checks checks = new Checks();
    private static final String CLASSES = "class A of Object { field f A field n int method m ( A int ) A 3 { null give } } "
        + "class B of A { field g int[] } class C of A { } class E of Error { } ";

    public static void main(String[] args) {
        heightsTaken();
        heightsLeft();
        heightsMeet();
        heightsOfCatches();
        heightsBeforeTypes();
        typesTaken();
        locals();
        references();
        arrays();
        elements();
        joins();
        loops();
        nullElements();
        bodies();
        catches();
        unreached();
        orderOfFaults();
        heightAnswers();
        checks.finish("TypesTest");
    }

    private static String in(int locals, String lines) {
        return Checks.main(locals, lines, "static take ( A int ) int 2 { push 1 give } static none ( B ) none 1 { back } "
            + "static any ( ) Object 0 { null give } static two ( A[] Object ) none 2 { back }", CLASSES);
    }

    private static void right(int locals, String lines) {
        checks.right(in(locals, lines));
    }

    private static void wrong(int locals, String lines) {
        checks.fault(4, in(locals, lines));
    }

    private static void heightsTaken() {
        String one = "pop,dup,neg,write,throw,length,store 0,isnull a,notnull a,array int,get A.f,cast A,is A,call Main.none";
        for (String op : one.split(",")) {
            wrong(1, "a : @" + op + " back");
        }
        String two = "swap,add,sub,mul,div,rem,and,or,xor,shl,shr,eq a,ne a,lt a,le a,gt a,ge a,same a,other a,aload,"
            + "put A.f,call Main.take";
        for (String op : two.split(",")) {
            wrong(1, "push 1 @" + op + " a : back");
        }
        wrong(1, "push 1 push 1 @astore back");
        wrong(1, "null null @send A.m back");
        checks.fault(4, Checks.main(0, "back", "static s ( ) int 0 { @give }", ""));
        right(0, "push 1 push 1 push 1 back");
        checks.right(Checks.main(0, "back", "static s ( ) int 0 { push 1 push 2 give }", ""));
        checks.right(Checks.main(0, "push 4 new Error throw"));
    }

    private static void heightsLeft() {
        String eight = "push 1 push 2 push 3 push 4 push 5 push 6 push 7 push 8 ";
        right(0, eight + "add back");
        right(0, eight + "swap back");
        right(1, eight + "store 0 load 0 back");
        for (String op : "push 9,null,load 0,dup,new A,read,call Main.any".split(",")) {
            wrong(1, eight + "@" + op + " back");
        }
        right(0, "push 1 push 2 push 3 push 4 push 5 push 6 null push 8 call Main.take back");
        right(0, "null null null null null null null null get A.f back");
        checks.fault(4, Checks.main(0, eight + "@call Main.nine back", "static nine ( int int int int int int int int int ) none 9 { back }", ""));
        checks.right(Checks.main(0, eight + "call Main.eight back", "static eight ( int int int int int int int int ) none 8 { back }", ""));
    }

    private static void heightsMeet() {
        wrong(0, "read read eq a push 1 a : @back");
        wrong(0, "a : @push 1 goto a");
        wrong(0, "a : b : @read read eq a push 1 goto b");
        right(0, "a : push 1 pop goto a");
        right(0, "read read eq a push 1 goto b a : null b : pop back");
        // The first in the text counts, not the first on the way.
        wrong(0, "goto c a : @pop back c : read read eq a pop back");
    }

    private static void heightsOfCatches() {
        right(0, "a : push 1 write b : back c : pop back catch a b c Error");
        wrong(0, "a : push 1 write b : c : @back catch a b c Error");
        wrong(0, "a : push 1 write b : back c : pop @pop back catch a b c Error");
        wrong(0, "a : @push 1 write b : back catch a b a Error");
        right(0, "new Error goto c a : push 1 write b : back c : pop goto a catch a b c Error");
        // A height that is wrong goes to no handler either: the first fault is then the one in the middle.
        wrong(0, "goto x c : pop pop back x : y : @pop z : back catch y z c Error");
        wrong(0, "goto x c : pop @pop back x : push 1 y : pop z : back catch y z c Error");
    }

    private static void heightsBeforeTypes() {
        // In a body heights come first, though the fault of types stands before.
        wrong(1, "load 0 pop @pop back");
        checks.fault(4, Checks.main(1, "@load 0 pop back", "static s ( ) none 0 { pop back }", ""));
        checks.fault(4, "class A of Object { static s ( ) none 1 { @load 0 pop back } } " + Checks.main(0, "pop back"));
    }

    private static void typesTaken() {
        for (String op : "add sub mul div rem and or xor shl shr".split(" ")) {
            right(0, "push 1 push 2 " + op + " write back");
            wrong(0, "push 1 null @" + op + " pop back");
            wrong(0, "null push 1 @" + op + " pop back");
        }
        for (String op : "eq ne lt le gt ge".split(" ")) {
            right(0, "a : push 1 push 2 " + op + " a back");
            wrong(0, "a : push 1 new A @" + op + " a back");
            wrong(0, "a : null push 2 @" + op + " a back");
        }
        for (String op : "same other".split(" ")) {
            right(0, "a : new A push 1 array int " + op + " a back");
            wrong(0, "a : push 1 null @" + op + " a back");
            wrong(0, "a : null push 1 @" + op + " a back");
        }
        for (String op : "isnull notnull".split(" ")) {
            right(0, "a : null " + op + " a new A " + op + " a push 1 array A " + op + " a back");
            wrong(0, "a : push 1 @" + op + " a back");
        }
        wrong(0, "null @neg pop back");
        wrong(0, "null @write back");
        wrong(0, "null @array int pop back");
        wrong(0, "push 1 @throw");
        wrong(0, "new A @throw");
        wrong(0, "push 1 array Error @throw");
        right(0, "null throw");
        right(0, "new E throw");
        wrong(0, "new Object @throw");
        right(1, "push 1 pop null pop push 1 dup pop pop push 1 null swap write pop back");
    }

    private static void locals() {
        wrong(1, "@load 0 pop back");
        wrong(1, "@inc 0 1 back");
        wrong(1, "null store 0 @inc 0 1 back");
        wrong(1, "new A store 0 @inc 0 1 back");
        right(1, "push 1 store 0 inc 0 1 load 0 write back");
        right(2, "push 1 store 0 null store 0 load 0 get A.f pop back");
        wrong(2, "null store 0 push 1 store 0 load 0 @get A.f pop back");
        checks.right(Checks.main(0, "back", "static s ( int A int[] ) none 3 { inc 0 1 load 1 get A.f store 1 load 2 length store 0 back }", CLASSES));
        checks.fault(4, Checks.main(0, "back", "static s ( int A ) none 3 { @load 2 pop back }", CLASSES));
        checks.fault(4, Checks.main(0, "back", "static s ( int A ) none 3 { @inc 1 1 back }", CLASSES));
        checks.right(Checks.main(0, "back", "method s ( int ) Main 2 { inc 1 1 load 0 give }", CLASSES));
        checks.fault(4, Checks.main(0, "back", "method s ( int ) int 2 { load 0 @give }", CLASSES));
    }

    private static void references() {
        right(0, "new A get A.f pop new B get A.f pop new B get B.f pop new B get B.g length write back");
        wrong(0, "new A @get B.f pop back");
        wrong(0, "new C @get B.g pop back");
        wrong(0, "call Main.any @get A.f pop back");
        wrong(0, "push 1 array A @get A.f pop back");
        wrong(0, "push 1 @get A.f pop back");
        right(0, "null get A.f get A.f get A.n write back");
        right(0, "new A new B put A.f new A null put A.f new B push 1 put A.n back");
        wrong(0, "new A new Object @put A.f back");
        wrong(0, "new A push 1 @put A.f back");
        wrong(0, "new A null @put A.n back");
        wrong(0, "new Object null @put A.f back");
        wrong(0, "new B push 1 array A @put B.g back");
        right(0, "call Main.any cast A get A.f pop null cast B get B.g pop new A cast B get B.g pop back");
        right(0, "new A cast int[] length write new A cast E throw");
        wrong(0, "push 1 @cast A pop back");
        wrong(0, "push 1 @is A pop back");
        right(0, "new A is int[] write null is A write back");
        wrong(0, "new A cast Object @get A.f pop back");
        right(0, "new A push 1 call Main.take write null push 1 call Main.take write new B call Main.none back");
        wrong(0, "new Object push 1 @call Main.take write back");
        wrong(0, "new A null @call Main.take write back");
        wrong(0, "new A @call Main.none back");
        right(0, "new B null push 1 send A.m get A.f pop null null push 1 send B.m pop back");
        wrong(0, "new A null push 1 @send B.m pop back");
        wrong(0, "new A new Object push 1 @send A.m pop back");
        wrong(0, "new A null push 1 send A.m @write back");
        right(0, "push 1 array B new A call Main.two push 1 array A push 1 array int call Main.two null null call Main.two back");
        wrong(0, "push 1 array Object null @call Main.two back");
        wrong(0, "push 1 array int null @call Main.two back");
        wrong(0, "null push 1 @call Main.two back");
    }

    private static void arrays() {
        right(0, "push 1 array int length write push 1 array A length write null length write back");
        wrong(0, "new A @length write back");
        wrong(0, "new Object @length write back");
        wrong(0, "push 1 @length write back");
        right(0, "push 1 array int push 0 aload write push 1 array A push 0 aload get A.f pop back");
        wrong(0, "push 1 array int null @aload pop back");
        wrong(0, "push 1 array A push 0 aload @write back");
        wrong(0, "push 1 array A push 0 aload @get B.g pop back");
        wrong(0, "new A push 0 @aload pop back");
        wrong(0, "push 1 push 0 @aload pop back");
    }

    private static void elements() {
        right(0, "push 1 array int push 0 push 5 astore push 1 array A push 0 new B astore back");
        right(0, "push 1 array A push 0 null astore push 1 array Object push 0 push 1 array int astore back");
        wrong(0, "push 1 array int push 0 null @astore back");
        wrong(0, "push 1 array A push 0 push 1 @astore back");
        wrong(0, "push 1 array A push 0 new Object @astore back");
        wrong(0, "push 1 array B push 0 new A @astore back");
        wrong(0, "push 1 array A null new A @astore back");
        wrong(0, "new A push 0 new A @astore back");
        wrong(0, "new Object push 0 null @astore back");
        right(0, "null push 0 push 1 astore null push 0 new A astore null push 0 null astore back");
        wrong(0, "null null push 1 @astore back");
        // Behind null anything but unset: a local that is an int or a reference is unset.
        wrong(1, "null push 0 read read eq a push 1 goto b a : null b : @astore back");
    }

    private static String joined(String one, String two, String then) {
        return in(1, "read read eq a " + one + " goto b a : " + two + " b : " + then + " back");
    }

    private static void joins() {
        checks.right(joined("new B", "new C", "get A.f pop"));
        checks.right(joined("new B", "null", "get B.g pop"));
        checks.right(joined("null", "new B", "get B.g pop"));
        checks.fault(4, joined("new B", "new A", "@get B.g pop"));
        checks.fault(4, joined("new B", "new E", "@get A.f pop"));
        checks.right(joined("new B", "new E", "isnull b2 b2 :"));
        checks.right(joined("new E", "new NullError", "throw c :"));
        checks.right(joined("push 1 array B", "push 1 array C", "push 0 aload get A.f pop"));
        checks.right(joined("push 1 array B", "push 1 array E", "push 0 aload isnull c c :"));
        checks.right(joined("push 1 array B", "null", "push 0 aload get B.g pop"));
        checks.fault(4, joined("push 1 array B", "push 1 array int", "@length pop"));
        checks.fault(4, joined("push 1 array B", "new B", "@length pop"));
        checks.right(joined("push 1 array B", "push 1 array int", "is int[] pop"));
        checks.right(joined("push 1 array int", "null", "push 0 aload write"));
        checks.right(joined("push 1 array B", "push 1 array E", "push 0 new A astore"));
        checks.fault(4, joined("push 1 array B", "push 1 array C", "push 0 new Object @astore"));
        checks.fault(4, joined("push 1", "null", "@write"));
        checks.fault(4, joined("push 1", "null", "@isnull c c :"));
        checks.fault(4, joined("push 1", "new A", "store 0 @load 0 pop"));
        checks.right(joined("push 1", "new A", "store 0"));
        checks.right(joined("push 1", "new A", "dup swap pop pop"));
        checks.fault(4, joined("push 1 store 0", "", "@load 0 pop"));
        checks.fault(4, joined("push 1 store 0", "null store 0", "@inc 0 1"));
        checks.right(joined("push 1 store 0", "null store 0", "null store 0 load 0 get A.f pop"));
        checks.fault(4, joined("push 1", "new A", "@call Main.none"));
    }

    private static void loops() {
        right(1, "new B store 0 a : load 0 get A.f store 0 read read eq a back");
        wrong(1, "new B store 0 a : load 0 @get B.g pop new A store 0 read read eq a back");
        right(2, "null store 0 a : load 0 get A.f store 0 goto a");
        wrong(2, "null store 0 null store 1 a : load 1 @get B.g pop load 0 store 1 new C store 0 goto a");
        right(1, "null store 0 a : load 0 pop push 1 array B store 0 push 1 array C store 0 goto a");
    }

    private static void nullElements() {
        // Nothing comes behind aload of null: neither its types nor its faults; heights come all the same.
        right(1, "null push 0 aload load 0 add write back");
        ObjectMachine x = Checks.loaded(in(1, "null push 0 aload load 0 add write back"));
        // The two instructions of A.m lie before those of main.
        int first = 2;
        int[] due = {0, 1, 2, 1, 2, 1, 0};
        for (int k = 0; k < due.length; k++) {
            checks.due("height", x.height(first + k), due[k]);
        }
        wrong(1, "a : null push 0 aload b : pop back c : pop @load 0 pop back catch a b c Error");
        wrong(1, "null null @aload pop back");
        wrong(0, "read read eq a null goto b a : push 1 array int b : push 0 aload @isnull b2 b2 : back");
        wrong(0, "read read eq a push 1 array A goto b a : push 1 array int b : push 0 @aload pop back");
    }

    private static void bodies() {
        checks.fault(4, Checks.main(0, "push 1 @give"));
        checks.fault(4, Checks.main(0, "null @give"));
        checks.fault(4, Checks.main(0, "back", "static s ( ) int 0 { @back }", ""));
        checks.fault(4, Checks.main(0, "back", "static s ( ) int 0 { null @give }", ""));
        checks.fault(4, Checks.main(0, "back", "static s ( ) B 0 { new A @give }", CLASSES));
        checks.right(Checks.main(0, "back", "static s ( ) A 0 { new B give } static t ( ) A[] 0 { null give }", CLASSES));
        checks.right(Checks.main(0, "back", "static s ( ) A[] 0 { push 1 array B give }", CLASSES));
        checks.fault(4, Checks.main(0, "back", "static s ( ) A[] 0 { push 1 array Object @give }", CLASSES));
        checks.right(Checks.main(0, "back", "static s ( ) Object 0 { push 1 array int give }", CLASSES));
        checks.right(Checks.main(0, "back", "static s ( ) Object[] 0 { push 1 array A give }", CLASSES));
        checks.fault(4, Checks.main(0, "back", "static s ( ) Object[] 0 { push 1 array int @give }", CLASSES));
    }

    private static void catches() {
        // The handler gets the locals before each instruction, and the class of the catch.
        right(1, "a : push 1 write b : back c : isnull d d : back catch a b c Error");
        wrong(1, "a : push 1 store 0 push 2 write b : back c : pop @load 0 write back catch a b c Error");
        right(1, "push 0 store 0 a : push 1 store 0 push 2 write b : back c : pop load 0 write back catch a b c Error");
        right(1, "push 1 a : store 0 b : back c : pop back catch a b c Error");
        wrong(1, "push 0 store 0 null a : store 0 push 2 write b : back c : pop @load 0 pop back catch a b c Error");
        right(1, "push 0 store 0 null a : store 0 b : back c : pop load 0 write back catch a b c Error");
        checks.right(in(0, "a : push 1 write b : back c : throw catch a b c E"));
        wrong(0, "a : push 1 write b : back c : @get A.f pop back catch a b c E");
        wrong(0, "a : push 1 write b : back c : cast NullError throw d : back e : @write back catch a b c Error catch c d e Error");
        // Two classes of catches join at a handler.
        checks.right(Checks.main(0, "a : push 1 write b : back c : get F.f write back catch a b c G catch a b c H", "",
            "class F of Error { field f int } class G of F { } class H of F { } "));
        checks.fault(4, Checks.main(0, "a : push 1 write b : back c : @get F.f write back catch a b c G catch a b c CastError", "",
            "class F of Error { field f int } class G of F { } "));
    }

    private static void unreached() {
        right(1, "back load 0 add inc 0 1 give");
        right(1, "goto a load 0 add a : back");
        right(1, "back a : pop pop b : back c : load 0 write back catch a b c Error");
        wrong(1, "read read eq a back a : @load 0 pop back");
    }

    private static void orderOfFaults() {
        wrong(2, "goto b a : @load 0 pop back b : load 1 pop goto a");
        wrong(2, "@load 0 load 1 pop pop back");
        // What a wrong instruction leaves is as told, so that only it is at fault.
        wrong(2, "goto b a : write back b : null null @add goto a");
        wrong(2, "goto b a : get A.f pop back b : new A cast A @get B.f goto a");
        wrong(2, "goto b a : @write back b : push 1 get A.f goto a");
    }

    private static void heightAnswers() {
        ObjectMachine x = Checks.loaded(Checks.main(1, "push 1 push 2 add store 0 goto b a : pop back b : load 0 write back "
            + "c : read pop goto c"));
        int[] due = {0, 1, 2, 1, 0, -1, -1, 0, 1, 0, -1, -1, -1};
        for (int k = 0; k < due.length; k++) {
            checks.due("height(" + k + ")", x.height(k), due[k]);
        }
        checks.due("height behind the end", x.height(13), -1);
        checks.due("height(-1)", x.height(-1), -1);
        checks.due("height of the least int", x.height(Integer.MIN_VALUE), -1);
        checks.due("height of the most int", x.height(Integer.MAX_VALUE), -1);
        ObjectMachine y = Checks.loaded(Checks.main(0, "a : push 1 push 2 b : pop pop back c : pop back catch a b c Error"));
        int[] then = {0, 1, 2, 1, 0, 1, 0, -1};
        for (int k = 0; k < then.length; k++) {
            checks.due("height(" + k + ")", y.height(k), then[k]);
        }
        Checks.give(y, Checks.main(0, "back"));
        y.load();
        checks.due("height of another program", y.height(1), -1);
    }
}
