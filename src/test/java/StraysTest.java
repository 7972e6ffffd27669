import java.lang.reflect.Field;

/**
 * Promise 16: strays. A right system has none, so that the programs here are changed behind the checks: one
 * instruction of a loaded program becomes another.
 */
public final class StraysTest {
    private static final int PUSH = 0;
    private static final int NULL = 1;
    private static final int LOAD = 2;
    private static final int POP = 6;
    private static final int NEW = 30;

    public static void main(String[] args) {
        Checks checks = new Checks();
        all(checks);
        checks.finish("StraysTest");
    }

    static void all(Checks c) {
        stray(c, "push 1 write back", 0, NULL, 0, true);
        stray(c, "push 1 push 2 add write back", 1, NULL, 0, true);
        stray(c, "null isnull a a : back", 0, PUSH, 5, true);
        stray(c, "new A get A.n write back", 0, PUSH, 1, true);
        stray(c, "new A get A.n write back", 0, NULL, 0, false);
        stray(c, "new B get B.n write back", 0, NEW, 9, false);
        stray(c, "new A get A.n write back", 0, NEW, 0, true);
        stray(c, "new A get A.n write back", 0, NEW, 11, true);
        stray(c, "push 1 store 0 load 0 write back", 2, LOAD, 1, true);
        stray(c, "push 1 store 0 inc 0 1 back", 0, NULL, 0, true);
        stray(c, "push 1 push 2 write write back", 1, POP, 0, true);
        stray(c, "push 1 array int push 0 push 5 astore back", 3, NULL, 0, true);
        stray(c, "push 1 array A push 0 new A astore back", 3, PUSH, 5, true);
        stray(c, "push 1 array A push 0 new A astore back", 3, NEW, 0, false);
        stray(c, "new E throw", 0, NEW, 8, true);
        stray(c, "push 1 call Main.s back", 0, NULL, 0, true);
        stray(c, "new B push 1 send A.m back", 0, NEW, 8, false);
        stray(c, "new B push 1 send B.m back", 0, NEW, 8, true);
        // What an earlier run, or an earlier call, has left in a local is not there any more.
        stray(c, "push 1 store 0 load 0 pop back", 1, POP, 0, true);
        stray(c, "push 1 store 1 load 1 pop back", 1, POP, 0, true);
        stray(c, "call Main.t back", 2 + 1 + 1, POP, 0, true);
    }

    private static Object part(Object of, String name) {
        try {
            Field f = of.getClass().getDeclaredField(name);
            f.setAccessible(true);
            return f.get(of);
        } catch (ReflectiveOperationException e) {
            throw new IllegalStateException("no part " + name, e);
        }
    }

    /** Changes instruction i of main to another one, and looks whether its runs have strays. */
    private static void stray(Checks c, String lines, int i, int op, int operand, boolean want) {
        String text = "class A of Object { field n int method m ( int ) none 2 { back } } class B of A { } "
            + "class E of Error { } class C of Object { } class Main of Object { static main ( ) none 2 { " + lines
            + " } static s ( int ) none 1 { back } static t ( ) none 2 { push 1 store 1 load 1 pop back } }";
        ObjectMachine x = Checks.loaded(text);
        c.due("fault of " + lines, x.faultAt(), -1);
        x.run(50);
        c.due("strays of " + lines, x.strays(), 0);
        Object code = part(part(x, "program"), "code");
        // The one instruction of A.m lies before main's.
        ((int[]) part(code, "op"))[1 + i] = op;
        ((int[]) part(code, "a"))[1 + i] = operand;
        x.run(50);
        c.due("a stray in " + lines + " with " + op + " " + operand, x.strays() > 0, want);
        int once = x.strays();
        x.run(50);
        c.due("strays of all runs", x.strays(), 2 * once);
    }
}
