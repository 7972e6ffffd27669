import java.util.ArrayList;
import java.util.List;
import java.util.Random;

/** Makes texts of programs: right ones, ones that are right but for chance, and ones with a token spoiled. */
final class Generator {
    private static final String[] WORDS = ("push null load store inc dup pop swap add sub mul div rem and or xor shl shr "
        + "neg goto eq ne lt le gt ge isnull notnull same other new array length aload astore get put cast is call send "
        + "throw give back read write catch class of field static method none int int[] Object Error NullError Main Main[] "
        + "A A[] B C0 C1 C1[] main f0 f1 m0 m1 s0 l0 l1 l2 0 1 2 3 12 13 -1 8 ( ) { } : C0.f0 C1.f0 C1.m0 C0.m0 Main.main "
        + "Main.s0 Error.f0 X x x1 2147483648 -2147483648 @ x.y X.Y [] int.f A.").split(" ");

    private static final class Body {
        String owner;
        boolean method;
        String name;
        List<String> types = new ArrayList<>();
        String result;
        String text = "";
        int locals;
    }

    private static final class Made {
        String name;
        Made above;
        List<String> fields = new ArrayList<>();
        List<String> fieldTypes = new ArrayList<>();
        List<Body> bodies = new ArrayList<>();
    }

    private final Random random;
    private List<Made> classes;
    private List<String> names;
    private StringBuilder code;
    private String[] locals;
    private int labels;
    private int size;
    private boolean loose;

    Generator(long seed) {
        random = new Random(seed);
    }

    private int below(int n) {
        return random.nextInt(n);
    }

    private boolean chance(int percent) {
        return random.nextInt(100) < percent;
    }

    private <T> T any(List<T> list) {
        return list.get(below(list.size()));
    }

    /** A program; a loose one may have wrong types here and there. */
    String program(boolean isLoose) {
        loose = isLoose;
        labels = 0;
        makeClasses();
        makeHeads();
        StringBuilder all = new StringBuilder();
        for (Made c : classes) {
            all.append("class ").append(c.name).append(" of ").append(c.above == null ? above(c) : c.above.name);
            all.append(" {\n");
            for (int k = 0; k < c.fields.size(); k++) {
                all.append(" field ").append(c.fields.get(k)).append(' ').append(c.fieldTypes.get(k)).append('\n');
            }
            for (Body b : c.bodies) {
                fill(b);
                all.append(b.method ? " method " : " static ").append(b.name).append(" ( ");
                for (String t : b.types) {
                    all.append(t).append(' ');
                }
                all.append(") ").append(b.result).append(' ').append(b.locals).append(" {").append(b.text).append(" }\n");
            }
            all.append("}\n");
        }
        return all.toString();
    }

    private String above(Made c) {
        return c.name.equals("Main") || chance(50) ? "Object" : c.name.endsWith("1") ? "Error" : "Object";
    }

    private void makeClasses() {
        classes = new ArrayList<>();
        names = new ArrayList<>(List.of("Object", "Error"));
        int count = 1 + below(4);
        for (int k = 0; k < count; k++) {
            Made c = new Made();
            c.name = "C" + k;
            c.above = k > 0 && chance(60) ? any(classes) : null;
            classes.add(c);
            names.add(c.name);
        }
        Made main = new Made();
        main.name = "Main";
        classes.add(main);
        names.add("Main");
    }

    private String type() {
        switch (below(6)) {
            case 0: case 1: return "int";
            case 2: return "int[]";
            case 3: return any(names) + "[]";
            default: return any(names);
        }
    }

    private void makeHeads() {
        int number = 0;
        for (Made c : classes) {
            for (int k = below(3); k > 0; k--) {
                c.fields.add("f" + number++);
                c.fieldTypes.add(type());
            }
            for (int k = below(3); k > 0; k--) {
                c.bodies.add(head(c, "b" + number++, chance(60)));
            }
            if (c.above != null) {
                for (Body b : c.above.bodies) {
                    if (b.method && chance(60)) {
                        Body over = new Body();
                        over.owner = c.name;
                        over.method = true;
                        over.name = b.name;
                        over.types = b.types;
                        over.result = b.result;
                        c.bodies.add(over);
                    }
                }
            }
            if (c.name.equals("Main")) {
                Body main = new Body();
                main.owner = "Main";
                main.name = "main";
                main.result = "none";
                c.bodies.add(below(c.bodies.size() + 1), main);
            }
        }
    }

    private Body head(Made c, String name, boolean method) {
        Body b = new Body();
        b.owner = c.name;
        b.method = method;
        b.name = name;
        for (int k = below(4); k > 0; k--) {
            b.types.add(type());
        }
        b.result = chance(40) ? "none" : type();
        return b;
    }

    private void fill(Body b) {
        code = new StringBuilder();
        b.locals = Math.min(12, b.types.size() + (b.method ? 1 : 0) + 1 + below(5));
        locals = new String[b.locals];
        int at = 0;
        if (b.method) {
            locals[at++] = b.owner;
        }
        for (String t : b.types) {
            locals[at++] = t;
        }
        size = 4 + below(40);
        for (int k = 1 + below(6); k > 0; k--) {
            statement(b, 0);
        }
        leave(b);
        b.text = code.toString();
    }

    private void leave(Body b) {
        if (b.result.equals("none")) {
            emit("back");
        } else {
            value(b.result, 0, 0);
            emit("give");
        }
    }

    private void emit(String words) {
        size--;
        code.append(' ').append(words);
    }

    private void label(String name) {
        code.append('\n').append(name).append(" :");
    }

    private String newLabel() {
        return "l" + labels++;
    }

    private void statement(Body b, int depth) {
        if (size <= 0) {
            return;
        }
        int kind = below(depth > 2 ? 8 : 14);
        int k = below(locals.length);
        switch (kind) {
            case 0: case 1:
                String t = type();
                value(t, 0, 0);
                emit("store " + k);
                locals[k] = t;
                break;
            case 2: case 3:
                value("int", 0, 0);
                emit("write");
                break;
            case 4:
                if ("int".equals(locals[k]) || loose && chance(10)) {
                    emit("inc " + k + " " + (below(200) - 100));
                }
                break;
            case 5: put(); break;
            case 6: storeElement(); break;
            case 7: callFor("none", 0, 0); break;
            case 8: case 9: branch(b, depth); break;
            case 10: case 11: guarded(b, depth); break;
            case 12: loop(b, depth); break;
            default:
                if (chance(30)) {
                    value("Error", 0, 0);
                    emit("throw");
                    label(newLabel());
                }
                break;
        }
    }

    private void statements(Body b, int depth) {
        for (int k = 1 + below(3); k > 0; k--) {
            statement(b, depth + 1);
        }
    }

    private void condition(String to) {
        if (chance(60)) {
            value("int", 0, 0);
            value("int", 1, 0);
            emit(any(List.of("eq", "ne", "lt", "le", "gt", "ge")) + " " + to);
        } else if (chance(50)) {
            value(any(names), 0, 0);
            emit(any(List.of("isnull", "notnull")) + " " + to);
        } else {
            value(any(names), 0, 0);
            value(any(names), 1, 0);
            emit(any(List.of("same", "other")) + " " + to);
        }
    }

    /** Locals that two ways have of different types are kept unset, but where the text is loose. */
    private void merge(String[] one, String[] two) {
        for (int k = 0; k < locals.length; k++) {
            boolean same = one[k] != null && one[k].equals(two[k]);
            locals[k] = same || loose && chance(20) ? one[k] : null;
        }
    }

    private void branch(Body b, int depth) {
        String other = newLabel();
        String end = newLabel();
        condition(other);
        String[] before = locals.clone();
        statements(b, depth);
        emit("goto " + end);
        String[] one = locals.clone();
        locals = before;
        label(other);
        statements(b, depth);
        label(end);
        merge(one, locals.clone());
        emit("push 0 pop");
    }

    private void loop(Body b, int depth) {
        String again = newLabel();
        String end = newLabel();
        String[] before = locals.clone();
        int counter = below(locals.length);
        emit("push " + (1 + below(4)) + " store " + counter);
        for (int k = 0; k < locals.length; k++) {
            locals[k] = chance(50) ? null : locals[k];
        }
        locals[counter] = "int";
        String[] kept = locals.clone();
        label(again);
        emit("load " + counter + " push 0 le " + end);
        statements(b, depth);
        for (int k = 0; k < locals.length; k++) {
            if (kept[k] != null && !kept[k].equals(locals[k])) {
                value(kept[k], 0, 0);
                emit("store " + k);
            }
        }
        emit("inc " + counter + " -1 goto " + again);
        label(end);
        locals = kept.clone();
        if (before[counter] == null) {
            locals[counter] = "int";
        }
        emit("push 0 pop");
    }

    private void guarded(Body b, int depth) {
        String from = newLabel();
        String to = newLabel();
        String at = newLabel();
        String end = newLabel();
        String[] before = locals.clone();
        label(from);
        emit("push 0 pop");
        statements(b, depth);
        if (chance(40)) {
            emit("new " + any(List.of("Error", "NullError", "CastError")) + " throw");
            label(newLabel());
        }
        emit("goto " + end);
        label(to);
        String[] one = locals.clone();
        for (int k = 0; k < locals.length; k++) {
            locals[k] = before[k] != null && before[k].equals(one[k]) && (loose || chance(30)) ? before[k] : null;
        }
        label(at);
        String caught = any(List.of("Error", "Error", "NullError", "IndexError", "DivideError", "CastError", "SizeError"));
        if (chance(50)) {
            emit("is NullError write");
        } else if (chance(30)) {
            emit("throw");
            label(newLabel());
            emit("push 0 pop");
        } else {
            emit("pop");
        }
        statements(b, depth);
        label(end);
        merge(one, locals.clone());
        emit("push 0 pop");
        String line = " catch " + from + " " + to + " " + at + " " + caught;
        if (chance(50)) {
            code.append(line);
        } else {
            code.insert(0, line);
        }
    }

    private boolean isBelow(String low, String high) {
        if (low == null) {
            return false;
        }
        if (low.equals(high)) {
            return true;
        }
        if (high.equals("Object") && !low.equals("int")) {
            return true;
        }
        for (Made c : classes) {
            if (c.name.equals(low) && c.above != null) {
                return isBelow(c.above.name, high);
            }
        }
        return false;
    }

    /** Leaves a value of a type, with so many values under it on the stack. */
    private void value(String type, int height, int depth) {
        if (loose && chance(1)) {
            value(type(), height, depth);
            return;
        }
        List<Integer> fitting = new ArrayList<>();
        for (int k = 0; k < locals.length; k++) {
            if (isBelow(locals[k], type)) {
                fitting.add(k);
            }
        }
        if (!fitting.isEmpty() && chance(45)) {
            emit("load " + any(fitting));
            return;
        }
        boolean deep = depth > 3 || height > 5 || size <= 0;
        if (!deep && chance(25) && callFor(type, height, depth + 1)) {
            return;
        }
        if (!deep && chance(15) && getField(type, height, depth + 1)) {
            return;
        }
        if (type.equals("int")) {
            number(height, depth, deep);
        } else if (type.endsWith("[]")) {
            arrayValue(type, height, depth, deep);
        } else if (!deep && chance(15)) {
            value("Object", height, depth + 1);
            emit("cast " + type);
        } else if (!deep && chance(15)) {
            value(type + "[]", height, depth + 1);
            value("int", height + 1, depth + 1);
            emit("aload");
        } else if (type.equals("Object") && chance(20)) {
            emit("push 1 array " + any(names));
        } else {
            String made = type;
            for (Made c : classes) {
                made = isBelow(c.name, type) && chance(30) ? c.name : made;
            }
            emit(chance(12) ? "null" : "new " + made);
        }
    }

    private void arrayValue(String type, int height, int depth, boolean deep) {
        String element = type.substring(0, type.length() - 2);
        String made = element;
        for (Made c : classes) {
            made = isBelow(c.name, element) && chance(30) ? c.name : made;
        }
        if (chance(12)) {
            emit("null");
        } else if (!deep && chance(10)) {
            value("Object", height, depth + 1);
            emit("cast " + type);
        } else {
            emit("push " + (chance(4) ? -1 : chance(3) ? 5000 : below(5)) + " array " + made);
        }
    }

    private void number(int height, int depth, boolean deep) {
        if (deep || chance(40)) {
            int[] some = {0, 1, -1, 2, 3, 31, 32, 33, 100, Integer.MAX_VALUE, Integer.MIN_VALUE, below(1000)};
            emit(chance(15) ? "read" : "push " + some[below(some.length)]);
        } else if (chance(15)) {
            value(type().replaceAll("^int$", "Object"), height, depth + 1);
            String t = type();
            emit("is " + (t.equals("int") ? "int[]" : t));
        } else if (chance(15)) {
            value(chance(50) ? "int[]" : any(names) + "[]", height, depth + 1);
            emit("length");
        } else if (chance(15)) {
            value("int[]", height, depth + 1);
            value("int", height + 1, depth + 1);
            emit("aload");
        } else if (chance(15)) {
            value("int", height, depth + 1);
            emit(chance(50) ? "neg" : "dup add");
        } else {
            value("int", height, depth + 1);
            value("int", height + 1, depth + 1);
            emit(any(List.of("add", "sub", "mul", "div", "rem", "and", "or", "xor", "shl", "shr", "swap sub")));
        }
    }

    private boolean callFor(String type, int height, int depth) {
        List<Body> fitting = new ArrayList<>();
        for (Made c : classes) {
            for (Body b : c.bodies) {
                if (b.result.equals(type) && height + b.types.size() < 7) {
                    fitting.add(b);
                }
            }
        }
        if (fitting.isEmpty()) {
            return false;
        }
        Body b = any(fitting);
        int at = height;
        if (b.method) {
            value(b.owner, at++, depth + 1);
        }
        for (String t : b.types) {
            value(t, at++, depth + 1);
        }
        emit((b.method ? "send " : "call ") + b.owner + "." + b.name);
        return true;
    }

    private boolean getField(String type, int height, int depth) {
        for (Made c : classes) {
            for (int k = 0; k < c.fields.size(); k++) {
                if (c.fieldTypes.get(k).equals(type) && chance(60)) {
                    value(c.name, height, depth + 1);
                    emit("get " + c.name + "." + c.fields.get(k));
                    return true;
                }
            }
        }
        return false;
    }

    private void put() {
        Made c = any(classes);
        if (!c.fields.isEmpty()) {
            int k = below(c.fields.size());
            value(c.name, 0, 0);
            value(c.fieldTypes.get(k), 1, 0);
            emit("put " + c.name + "." + c.fields.get(k));
        }
    }

    private void storeElement() {
        String element = chance(40) ? "int" : any(names);
        value(element + "[]", 0, 0);
        value("int", 1, 0);
        value(element, 2, 0);
        emit("astore");
    }

    /** Lines of any instructions in a row, with jumps and catches anywhere. */
    String soup() {
        StringBuilder lines = new StringBuilder();
        int count = 3 + below(14);
        int places = 2 + below(4);
        int known = chance(90) ? places : 6;
        String[] types = {"Object", "A", "B", "A[]", "B[]", "Object[]", "int[]", "E"};
        for (int k = 0; k < count; k++) {
            if (chance(30) && places > 0) {
                lines.append(" l").append(--places).append(" :");
            }
            int local = below(4);
            String jump = "l" + below(known);
            String[] some = {"push " + below(3), "push 0", "null", "load " + local, "load " + local, "store " + local,
                "store " + local, "inc " + local + " 1", "dup", "pop", "pop", "swap", "add", "goto " + jump, "eq " + jump,
                "push 0 push 1 lt " + jump, "null isnull " + jump, "isnull " + jump, "notnull " + jump, "same " + jump,
                "new A", "new B", "new E", "push 2 array B", "push 1 array A", "push 2 array int", "array int", "length",
                "aload", "push 0 aload", "astore", "push 0 new B astore", "get A.f", "put A.f", "cast " + types[below(8)],
                "is " + types[below(8)], "call Main.s", "new B send B.m", "send A.m", "throw", "new E throw", "read",
                "write", "read write", "null store " + local, "new B store " + local, "push 3 store " + local, "call Main.o"};
            lines.append(' ').append(some[below(some.length)]);
        }
        while (places > 0) {
            lines.append(" l").append(--places).append(" :");
        }
        lines.append(chance(80) ? " back" : " goto l0");
        for (int k = below(3); k > 0; k--) {
            // Labels stand in falling order, so that FROM has mostly the higher number.
            int to = below(known);
            int from = chance(90) ? to + 1 + below(Math.max(1, known - to - 1)) : below(known);
            lines.append(" catch l").append(from).append(" l").append(to).append(" l").append(below(known));
            lines.append(chance(50) ? " Error" : chance(90) ? " E" : " A");
        }
        return aroundMain(lines.toString());
    }

    private static String aroundMain(String lines) {
        return "class A of Object { field f A method m ( ) int 1 { push 1 give } }\n"
            + "class B of A { field g int method m ( ) int 1 { load 0 get B.g give } } class E of Error { field e A[] }\n"
            + "class Main of Object { static main ( ) none 4 {" + lines + " }\n"
            + " static s ( A int ) int 2 { load 1 give } static o ( ) Object 0 { new A give } }";
    }

    /** Lines that each leave the stack as it was, over locals of changing types, with jumps and catches anywhere. */
    String mixture() {
        StringBuilder lines = new StringBuilder();
        int count = 2 + below(9);
        for (int k = 0; k < 4; k++) {
            lines.append(chance(93) ? " " + anyObject() + " store " + k : "");
        }
        for (int k = 0; k < count; k++) {
            lines.append(" l").append(k).append(" : ").append(fragment("l" + below(count)));
        }
        lines.append(chance(50) ? " back" : " goto l" + below(count));
        int handlers = below(3);
        for (int k = 0; k < handlers; k++) {
            lines.append(" h").append(k).append(" : ").append(chance(60) ? "store " + below(4) : chance(50) ? "pop" : "throw");
            lines.append(' ').append(fragment("l" + below(count))).append(chance(30) ? " back" : " goto l" + below(count));
            int from = below(count);
            int to = from + below(count - from);
            lines.append(" catch l").append(from).append(to == from ? " h0" : " l" + to).append(" h" + k);
            lines.append(chance(40) ? " Error" : chance(50) ? " E" : " NullError");
        }
        return aroundMain(lines.toString());
    }

    private String anyObject() {
        return any(List.of("null", "null", "new A", "new B", "new E", "new A", "new B", "push 2 array A", "push 2 array B",
            "push 2 array Object", "push 2 array int", "push 1", "push 0", "read", "call Main.o"));
    }

    private String fragment(String to) {
        String i = "load " + below(4);
        String j = "load " + below(4);
        String k = " store " + below(4);
        String t = any(List.of("Object", "A", "B", "A[]", "B[]", "Object[]", "int[]", "E", "Error"));
        return any(List.of(i + k, i + k, i + " isnull " + to, i + " notnull " + to, i + " cast " + t + k, "push 0 pop",
            i + " push 0 aload" + k, i + " push 0 aload" + k, i + " push 0 " + j + " astore", i + " get A.f" + k,
            i + " " + j + " put A.f", "inc " + below(4) + " 1", i + " write", i + " " + j + " same " + to, "null" + k,
            anyObject() + k, anyObject() + k, i + " " + j + " swap" + k + k, i + " dup pop pop", i + " throw", "goto " + to,
            i + " " + j + " call Main.s" + k, i + " send A.m" + k, "read push 0 eq " + to, "read push 0 ne " + to,
            i + " length" + k, i + " is " + t + " write", i + " array A" + k, "read pop", "new E throw"));
    }

    /** A text with a word changed for one of the same kind, so that its form stays right. */
    String renamed(String text) {
        List<String> tokens = new ArrayList<>(List.of(text.trim().split("\\s+")));
        for (int k = 1 + below(2); k > 0; k--) {
            int at = below(tokens.size());
            List<String> alike = new ArrayList<>();
            for (String t : chance(70) ? tokens : List.of(WORDS)) {
                if (kindOf(t).equals(kindOf(tokens.get(at)))) {
                    alike.add(t);
                }
            }
            tokens.set(at, alike.isEmpty() ? tokens.get(at) : any(alike));
        }
        return String.join(" ", tokens);
    }

    private static String kindOf(String t) {
        if (t.matches("goto|eq|ne|lt|le|gt|ge|isnull|notnull|same|other")) {
            return "jump";
        }
        if (t.matches("null|dup|pop|swap|add|sub|mul|neg|length|aload|astore|throw|give|back|read|write")) {
            return "plain";
        }
        if (t.matches("get|put|call|send")) {
            return "use";
        }
        if (t.matches("load|store|push")) {
            return "local";
        }
        if (t.matches("[fblms][0-9]+|main")) {
            return "name";
        }
        if (t.matches("[A-Z]\\w*(\\[\\])?")) {
            return t.endsWith("]") ? "array" : "class";
        }
        if (t.matches("[A-Z]\\w*\\.\\w+")) {
            return "reference";
        }
        return t.matches("-?[0-9]{1,9}") ? "number" : t;
    }

    /** A text with a token or two taken out, put in, doubled, changed or moved. */
    String spoiled(String text) {
        List<String> tokens = new ArrayList<>(List.of(text.trim().split("\\s+")));
        for (int k = 1 + below(2); k > 0 && tokens.size() > 1; k--) {
            int at = below(tokens.size());
            switch (below(7)) {
                case 0: tokens.remove(at); break;
                case 1: tokens.add(at, WORDS[below(WORDS.length)]); break;
                case 2: tokens.set(at, WORDS[below(WORDS.length)]); break;
                case 3: tokens.set(at, tokens.get(below(tokens.size()))); break;
                case 4: tokens.add(at, tokens.get(at)); break;
                case 5: tokens.set(at, tokens.set(below(tokens.size()), tokens.get(at))); break;
                default: tokens.subList(at, tokens.size()).clear(); break;
            }
        }
        StringBuilder all = new StringBuilder();
        for (String t : tokens) {
            all.append(t).append(chance(5) ? " ; remark ( } : \n" : chance(10) ? "\t\r\n" : " ");
        }
        return all.toString();
    }
}
