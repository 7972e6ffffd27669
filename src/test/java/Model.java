import java.util.ArrayList;
import java.util.HashMap;
import java.util.HashSet;
import java.util.LinkedHashMap;
import java.util.List;
import java.util.Map;
import java.util.Set;
import java.util.TreeSet;

/**
 * The document once more, written from its words in another way: trees, sets and maps instead of rows of
 * numbers, and joins found by trying all types. It is slow, and serves only to be compared with the program.
 */
final class Model {
    private static final String[] KNOWN = {"Object", "Error", "NullError", "IndexError", "SizeError", "DivideError",
        "CastError", "StoreError"};
    private static final Map<String, String> OPERANDS = new HashMap<>();
    static {
        for (String w : ("null dup pop swap add sub mul div rem and or xor shl shr neg length aload astore throw give "
            + "back read write").split(" ")) {
            OPERANDS.put(w, "");
        }
        for (String w : "goto eq ne lt le gt ge isnull notnull same other".split(" ")) {
            OPERANDS.put(w, "L");
        }
        for (String w : "get put call send".split(" ")) {
            OPERANDS.put(w, "F");
        }
        OPERANDS.put("push", "N");
        OPERANDS.put("load", "K");
        OPERANDS.put("store", "K");
        OPERANDS.put("inc", "KN");
        OPERANDS.put("new", "C");
        OPERANDS.put("array", "E");
        OPERANDS.put("cast", "T");
        OPERANDS.put("is", "T");
    }

    /** A fault, told at a token. */
    private static final class Fault extends RuntimeException {
        private static final long serialVersionUID = 1L;
        final int kind;
        final int at;

        Fault(int kind, int at) {
            super(null, null, false, false);
            this.kind = kind;
            this.at = at;
        }
    }

    private static final class Type {
        String name;
        String above;
        int at;
        int aboveAt;
        final Map<String, String> fields = new LinkedHashMap<>();
        final List<Member> members = new ArrayList<>();
        final Map<String, Member> bodies = new LinkedHashMap<>();
    }

    private static final class Member {
        String kind;
        String name;
        int at;
        String owner;
        final List<String> types = new ArrayList<>();
        final List<Integer> typesAt = new ArrayList<>();
        String result;
        int resultAt;
        int locals;
        int localsAt;
        int endAt;
        final List<Line> lines = new ArrayList<>();
        final List<Line> code = new ArrayList<>();
        final List<Line> catches = new ArrayList<>();
        final Map<String, Integer> labels = new HashMap<>();

        List<String> taken() {
            List<String> all = new ArrayList<>();
            if (kind.equals("method")) {
                all.add(owner);
            }
            all.addAll(types);
            return all;
        }
    }

    private static final class Line {
        String word;
        boolean label;
        int at;
        final List<String> operands = new ArrayList<>();
        /** Numbers of an instruction in its program and in its body, and of its site. */
        int number;
        int inBody;
        int site;
        final Set<Integer> heights = new TreeSet<>();
        List<String> locals;
        List<String> stack;
        Member body;
    }

    private static final class Loaded {
        final Map<String, Type> classes = new LinkedHashMap<>();
        final List<Member> bodies = new ArrayList<>();
        final List<Line> code = new ArrayList<>();
        int sites;
        int fields;
        int catches;
        int own;
        Member main;
    }

    private static final class Thing {
        String type;
        int site;
        final Map<String, Object> fields = new HashMap<>();
        Object[] elements;
    }

    private static final class Frame {
        Member body;
        int next;
        Object[] locals;
        final List<Object> stack = new ArrayList<>();
    }

    private String text = "";
    private List<String> tokens;
    private int read;
    private Loaded loading;
    private Loaded program;
    private int faultAt = -1;
    private final List<Integer> input = new ArrayList<>();
    private int steps;
    private int place = -1;
    private int thrown = -1;
    private int objects;
    private int cells;
    private final List<Integer> outs = new ArrayList<>();

    private final StringBuilder fed = new StringBuilder();
    private int fedInAll;

    void give(String t) {
        text = t;
    }

    int feed(int... words) {
        if (fed.length() + 20 > 16000 || fedInAll + 20 > 65536) {
            return -1;
        }
        for (int w : words) {
            for (int shift = 24; shift >= 0; shift -= 8) {
                fed.append((char) (w >> shift & 255));
            }
        }
        fedInAll += 20;
        return fed.length();
    }

    boolean end(int n) {
        if (n < 0 || n > fed.length()) {
            return false;
        }
        text = fed.substring(0, n);
        fed.setLength(0);
        return true;
    }

    int load() {
        loading = new Loaded();
        faultAt = -1;
        try {
            split();
            parse();
            nameClasses();
            nameMembers();
            nameLines();
            findMain();
            for (Member b : loading.bodies) {
                checkHeights(b);
                checkTypes(b);
            }
            program = loading;
        } catch (Fault f) {
            faultAt = f.at;
            return f.kind;
        } finally {
            text = "";
        }
        return 0;
    }

    int faultAt() {
        return faultAt;
    }

    int size(int what) {
        if (program == null || what < 0 || what > 5) {
            return -1;
        }
        return new int[] {program.code.size(), program.sites, program.bodies.size(), program.fields, program.own,
            program.catches}[what];
    }

    int height(int i) {
        if (program == null || i < 0 || i >= program.code.size() || program.code.get(i).heights.isEmpty()) {
            return -1;
        }
        return program.code.get(i).heights.iterator().next();
    }

    boolean input(int v) {
        return input.size() < 256 && input.add(v);
    }

    int steps() {
        return steps;
    }

    int place() {
        return place;
    }

    int thrown() {
        return thrown;
    }

    int made(int what) {
        return what == 0 ? objects : what == 1 ? cells : -1;
    }

    int written() {
        return outs.size();
    }

    int out(int k) {
        return k < 0 || k > 255 || k >= outs.size() ? 0 : outs.get(k);
    }

    // ---- 1 TEXT

    private void split() {
        tokens = new ArrayList<>();
        String rest = text;
        for (int i = 0; i < text.length(); i++) {
            int c = text.charAt(i);
            if (!(c == 9 || c == 10 || c == 13 || c >= 32 && c <= 126)) {
                throw new Fault(1, wordsOf(text.substring(0, i)).size());
            }
        }
        tokens = wordsOf(rest);
    }

    private static List<String> wordsOf(String s) {
        List<String> words = new ArrayList<>();
        for (String line : s.split("\n", -1)) {
            int remark = line.indexOf(';');
            String plain = remark < 0 ? line : line.substring(0, remark);
            StringBuilder wide = new StringBuilder();
            for (char c : plain.toCharArray()) {
                wide.append("(){}:".indexOf(c) >= 0 ? " " + c + " " : c);
            }
            for (String word : wide.toString().split("[\t\r ]+")) {
                if (!word.isEmpty()) {
                    words.add(word);
                }
            }
        }
        return words;
    }

    private static boolean isNumber(String w) {
        if (!w.matches("-?[0-9]{1,10}")) {
            return false;
        }
        long v = Long.parseLong(w);
        return v >= Integer.MIN_VALUE && v <= Integer.MAX_VALUE;
    }

    private static boolean fits(String w, char part) {
        String className = "[A-Z][A-Za-z0-9_]{0,23}";
        String name = "[a-z][A-Za-z0-9_]{0,23}";
        switch (part) {
            case 'n': case 'L': return w.matches(name);
            case 'C': return w.matches(className);
            case 'N': case 'K': return isNumber(w);
            case 'E': return w.equals("int") || w.matches(className);
            case 'T': return w.equals("int[]") || w.matches(className + "(\\[\\])?");
            case 'A': return w.matches("int(\\[\\])?") || w.matches(className + "(\\[\\])?");
            case 'R': return w.equals("none") || fits(w, 'A');
            case 'F': return w.matches(className + "\\." + name);
            default: return w.length() == 1 && w.charAt(0) == part;
        }
    }

    // ---- 2 PROGRAMS

    private String take(char part) {
        if (read >= tokens.size() || !fits(tokens.get(read), part)) {
            throw new Fault(2, read);
        }
        return tokens.get(read++);
    }

    private boolean sees(String word) {
        return read < tokens.size() && tokens.get(read).equals(word);
    }

    private void takeWord(String word) {
        if (!sees(word)) {
            throw new Fault(2, read);
        }
        read++;
    }

    private final List<Type> parsed = new ArrayList<>();

    private void parse() {
        read = 0;
        parsed.clear();
        while (read < tokens.size()) {
            takeWord("class");
            Type c = new Type();
            c.at = read;
            c.name = take('C');
            takeWord("of");
            c.aboveAt = read;
            c.above = take('C');
            take('{');
            while (!sees("}")) {
                c.members.add(member(c));
            }
            take('}');
            parsed.add(c);
        }
    }

    private Member member(Type c) {
        Member m = new Member();
        m.owner = c.name;
        if (sees("field") || sees("static") || sees("method")) {
            m.kind = tokens.get(read++);
        } else {
            throw new Fault(2, read);
        }
        m.at = read;
        m.name = take('n');
        if (m.kind.equals("field")) {
            m.resultAt = read;
            m.result = take('A');
            return m;
        }
        take('(');
        while (!sees(")")) {
            m.typesAt.add(read);
            m.types.add(take('A'));
        }
        take(')');
        m.resultAt = read;
        m.result = take('R');
        m.localsAt = read;
        m.locals = Integer.parseInt(take('N'));
        take('{');
        while (!sees("}")) {
            m.lines.add(line(m));
        }
        m.endAt = read;
        take('}');
        return m;
    }

    private Line line(Member m) {
        Line l = new Line();
        l.body = m;
        l.at = read;
        l.word = take('n');
        if (sees(":")) {
            l.label = true;
            read++;
        } else if (l.word.equals("catch")) {
            for (char part : "nnnC".toCharArray()) {
                l.operands.add(take(part));
            }
        } else if (OPERANDS.containsKey(l.word)) {
            for (char part : OPERANDS.get(l.word).toCharArray()) {
                l.operands.add(take(part));
            }
        } else {
            throw new Fault(2, read);
        }
        return l;
    }

    // ---- 3 NAMES

    private void nameClasses() {
        for (String k : KNOWN) {
            Type c = new Type();
            c.name = k;
            c.above = k.equals("Object") ? null : k.equals("Error") ? "Object" : "Error";
            loading.classes.put(k, c);
        }
        for (Type c : parsed) {
            if (loading.classes.containsKey(c.name) || loading.own == 24) {
                throw new Fault(3, c.at);
            }
            if (!loading.classes.containsKey(c.above)) {
                throw new Fault(3, c.aboveAt);
            }
            loading.classes.put(c.name, c);
            loading.own++;
        }
    }

    private boolean isThere(String type) {
        String element = type.endsWith("[]") ? type.substring(0, type.length() - 2) : type;
        return element.equals("int") || loading.classes.containsKey(element);
    }

    private Type typeAbove(Type c) {
        return c.above == null ? null : loading.classes.get(c.above);
    }

    private String fieldOf(Type c, String name) {
        return c == null ? null : c.fields.containsKey(name) ? c.fields.get(name) : fieldOf(typeAbove(c), name);
    }

    private Member bodyOf(Loaded in, String c, String name) {
        for (String k = c; k != null; k = in.classes.get(k).above) {
            if (in.classes.get(k).bodies.containsKey(name)) {
                return in.classes.get(k).bodies.get(name);
            }
        }
        return null;
    }

    private void nameMembers() {
        for (Type c : parsed) {
            for (Member m : c.members) {
                if (m.kind.equals("field")) {
                    if (fieldOf(c, m.name) != null || loading.fields == 48) {
                        throw new Fault(3, m.at);
                    }
                    if (!isThere(m.result)) {
                        throw new Fault(3, m.resultAt);
                    }
                    loading.fields++;
                    c.fields.put(m.name, m.result);
                } else {
                    nameBody(c, m);
                }
            }
        }
    }

    private void nameBody(Type c, Member m) {
        boolean method = m.kind.equals("method");
        Member over = bodyOf(loading, c.above, m.name);
        boolean replaces = over != null && method && over.kind.equals("method") && over.types.equals(m.types)
            && over.result.equals(m.result);
        if (c.bodies.containsKey(m.name) || over != null && !replaces || loading.bodies.size() == 48) {
            throw new Fault(3, m.at);
        }
        for (int k = 0; k < m.types.size(); k++) {
            if (!isThere(m.types.get(k))) {
                throw new Fault(3, m.typesAt.get(k));
            }
        }
        if (!m.result.equals("none") && !isThere(m.result)) {
            throw new Fault(3, m.resultAt);
        }
        if (m.locals < 0 || m.locals > 12 || m.locals < m.taken().size()) {
            throw new Fault(3, m.localsAt);
        }
        c.bodies.put(m.name, m);
        loading.bodies.add(m);
    }

    private void nameLines() {
        for (Member b : loading.bodies) {
            int count = 0;
            for (Line l : b.lines) {
                if (l.label) {
                    b.labels.putIfAbsent(l.word, count);
                } else if (!l.word.equals("catch")) {
                    count++;
                }
            }
            Set<String> before = new HashSet<>();
            for (Line l : b.lines) {
                if (l.label) {
                    if (!before.add(l.word)) {
                        throw new Fault(3, l.at);
                    }
                } else if (l.word.equals("catch")) {
                    nameCatch(b, l, count);
                } else {
                    nameInstruction(b, l, count);
                }
            }
            String last = b.code.isEmpty() ? "" : b.code.get(b.code.size() - 1).word;
            if (!last.matches("goto|throw|give|back")) {
                throw new Fault(3, b.endAt);
            }
        }
    }

    private void nameCatch(Member b, Line l, int count) {
        if (loading.catches == 64) {
            throw new Fault(3, l.at);
        }
        for (int k = 0; k < 3; k++) {
            Integer at = b.labels.get(l.operands.get(k));
            boolean wrong = at == null || k == 1 && at <= b.labels.get(l.operands.get(0)) || k == 2 && at >= count;
            if (wrong) {
                throw new Fault(3, l.at + 1 + k);
            }
        }
        String c = l.operands.get(3);
        if (!isThere(c) || !isClassBelow(c, "Error")) {
            throw new Fault(3, l.at + 4);
        }
        loading.catches++;
        b.catches.add(l);
    }

    private void nameInstruction(Member b, Line l, int count) {
        boolean makes = l.word.equals("new") || l.word.equals("array");
        if (loading.code.size() == 1024 || makes && loading.sites == 48) {
            throw new Fault(3, l.at);
        }
        l.number = loading.code.size();
        l.inBody = b.code.size();
        l.site = makes ? loading.sites++ : -1;
        loading.code.add(l);
        b.code.add(l);
        String parts = OPERANDS.get(l.word);
        if (!parts.isEmpty() && !isNamedRight(b, l, parts.charAt(0), l.operands.get(0), count)) {
            throw new Fault(3, l.at + 1);
        }
    }

    private boolean isNamedRight(Member b, Line l, char part, String operand, int count) {
        switch (part) {
            case 'K': return Integer.parseInt(operand) >= 0 && Integer.parseInt(operand) < b.locals;
            case 'L': return b.labels.containsKey(operand) && b.labels.get(operand) < count;
            case 'C': case 'E': case 'T': return isThere(operand);
            case 'F':
                String[] pair = operand.split("\\.");
                if (!loading.classes.containsKey(pair[0])) {
                    return false;
                }
                Member found = bodyOf(loading, pair[0], pair[1]);
                switch (l.word) {
                    case "call": return found != null && found.kind.equals("static");
                    case "send": return found != null && found.kind.equals("method");
                    default: return fieldOf(loading.classes.get(pair[0]), pair[1]) != null;
                }
            default: return true;
        }
    }

    private void findMain() {
        Type c = loading.classes.get("Main");
        Member m = c == null ? null : c.bodies.get("main");
        if (m == null || !m.kind.equals("static") || !m.types.isEmpty() || !m.result.equals("none")) {
            throw new Fault(3, tokens.size());
        }
        loading.main = m;
    }

    // ---- 4 TYPES

    private boolean isClassBelow(String low, String high) {
        for (String k = low; k != null; k = loading.classes.get(k).above) {
            if (k.equals(high)) {
                return true;
            }
        }
        return false;
    }

    private static boolean isArray(String t) {
        return t.endsWith("[]");
    }

    private static String element(String t) {
        return t.substring(0, t.length() - 2);
    }

    private boolean isRef(String t) {
        return !t.equals("int") && !t.equals("UNSET");
    }

    private boolean below(String low, String high) {
        if (low.equals(high) || high.equals("UNSET")) {
            return true;
        }
        if (!isRef(low) || !isRef(high)) {
            return false;
        }
        if (low.equals("null")) {
            return true;
        }
        if (high.equals("null")) {
            return false;
        }
        if (isArray(low)) {
            boolean pair = isArray(high) && !element(low).equals("int") && !element(high).equals("int");
            return high.equals("Object") || pair && isClassBelow(element(low), element(high));
        }
        return !isArray(high) && isClassBelow(low, high);
    }

    private String join(String a, String b) {
        List<String> all = new ArrayList<>(List.of("int", "null", "int[]", "UNSET"));
        for (String c : loading.classes.keySet()) {
            all.add(c);
            all.add(c + "[]");
        }
        all.removeIf(t -> !below(a, t) || !below(b, t));
        for (String t : all) {
            boolean least = true;
            for (String u : all) {
                least &= below(t, u);
            }
            if (least) {
                return t;
            }
        }
        throw new IllegalStateException("no join of " + a + " and " + b);
    }

    /** What an instruction takes: a type, "ref", "array", "element", or "any". */
    private List<String> takes(Line l) {
        String w = l.word;
        if (w.matches("store|pop|dup")) {
            return List.of("any");
        }
        if (w.equals("swap")) {
            return List.of("any", "any");
        }
        if (w.matches("add|sub|mul|div|rem|and|or|xor|shl|shr|eq|ne|lt|le|gt|ge")) {
            return List.of("int", "int");
        }
        if (w.matches("neg|array|write")) {
            return List.of("int");
        }
        if (w.matches("isnull|notnull|cast|is")) {
            return List.of("ref");
        }
        switch (w) {
            case "same": case "other": return List.of("ref", "ref");
            case "length": return List.of("array");
            case "aload": return List.of("array", "int");
            case "astore": return List.of("array", "int", "element");
            case "get": return List.of(ownerOf(l));
            case "put": return List.of(ownerOf(l), fieldType(l));
            case "call": return target(l).taken();
            case "send":
                List<String> all = new ArrayList<>(target(l).taken());
                all.set(0, ownerOf(l));
                return all;
            case "throw": return List.of("Error");
            case "give": return List.of(l.body.result);
            default: return List.of();
        }
    }

    private static String ownerOf(Line l) {
        return l.operands.get(0).split("\\.")[0];
    }

    private String fieldType(Line l) {
        return fieldOf(loading.classes.get(ownerOf(l)), l.operands.get(0).split("\\.")[1]);
    }

    private Member target(Line l) {
        return bodyOf(loading, ownerOf(l), l.operands.get(0).split("\\.")[1]);
    }

    /** What an instruction leaves of what it takes; null if it goes on nowhere. */
    private List<String> leaves(Line l, List<String> taken, List<String> locals) {
        String w = l.word;
        if (w.matches("push|read|add|sub|mul|div|rem|and|or|xor|shl|shr|neg|length|is")) {
            return List.of("int");
        }
        switch (w) {
            case "null": return List.of("null");
            case "load": return List.of(locals.get(Integer.parseInt(l.operands.get(0))));
            case "dup": return List.of(taken.get(0), taken.get(0));
            case "swap": return List.of(taken.get(1), taken.get(0));
            case "new": case "cast": return List.of(l.operands.get(0));
            case "array": return List.of(l.operands.get(0) + "[]");
            case "aload":
                String array = taken.get(0);
                return array.equals("null") ? null : List.of(isArray(array) ? element(array) : "UNSET");
            case "get": return List.of(fieldType(l));
            case "call": case "send":
                return target(l).result.equals("none") ? List.of() : List.of(target(l).result);
            default: return List.of();
        }
    }

    private List<Line> following(Line l) {
        List<Line> all = new ArrayList<>();
        if (!l.word.matches("goto|throw|give|back")) {
            all.add(l.body.code.get(l.inBody + 1));
        }
        if (OPERANDS.get(l.word).equals("L")) {
            all.add(l.body.code.get(l.body.labels.get(l.operands.get(0))));
        }
        return all;
    }

    private static boolean covers(Member b, Line caught, int inBody) {
        return b.labels.get(caught.operands.get(0)) <= inBody && inBody < b.labels.get(caught.operands.get(1));
    }

    private static Line handler(Member b, Line caught) {
        return b.code.get(b.labels.get(caught.operands.get(2)));
    }

    private int leavesCount(Line l) {
        List<String> some = List.of("UNSET", "UNSET", "UNSET");
        List<String> locals = new ArrayList<>();
        for (int k = 0; k < 12; k++) {
            locals.add("UNSET");
        }
        return leaves(l, some, locals).size();
    }

    private boolean isGood(Line l, int h) {
        return h >= takes(l).size() && h - takes(l).size() + leavesCount(l) <= 8;
    }

    private void checkHeights(Member b) {
        b.code.get(0).heights.add(0);
        boolean more = true;
        while (more) {
            more = false;
            for (Line l : b.code) {
                for (int h : new ArrayList<>(l.heights)) {
                    if (isGood(l, h)) {
                        for (Line n : following(l)) {
                            more |= n.heights.add(h - takes(l).size() + leavesCount(l));
                        }
                        for (Line k : b.catches) {
                            if (covers(b, k, l.inBody)) {
                                more |= handler(b, k).heights.add(1);
                            }
                        }
                    }
                }
            }
        }
        for (Line l : b.code) {
            boolean good = l.heights.size() <= 1;
            for (int h : l.heights) {
                good &= isGood(l, h);
            }
            if (!good) {
                throw new Fault(4, l.at);
            }
        }
    }

    private boolean arrives(Line l, List<String> locals, List<String> stack) {
        if (l.locals == null) {
            l.locals = new ArrayList<>(locals);
            l.stack = new ArrayList<>(stack);
            return true;
        }
        boolean changed = joinInto(l.locals, locals);
        return joinInto(l.stack, stack) | changed;
    }

    private boolean joinInto(List<String> old, List<String> more) {
        boolean changed = false;
        for (int k = 0; k < old.size(); k++) {
            if (!old.get(k).equals(more.get(k))) {
                String joined = join(old.get(k), more.get(k));
                changed |= !joined.equals(old.get(k));
                old.set(k, joined);
            }
        }
        return changed;
    }

    private void checkTypes(Member b) {
        List<String> begin = new ArrayList<>(b.taken());
        while (begin.size() < b.locals) {
            begin.add("UNSET");
        }
        arrives(b.code.get(0), begin, List.of());
        boolean more = true;
        while (more) {
            more = false;
            for (Line l : b.code) {
                if (l.locals != null) {
                    more |= flows(b, l);
                }
            }
        }
        for (Line l : b.code) {
            if (l.locals != null && !holds(l)) {
                throw new Fault(4, l.at);
            }
        }
    }

    private boolean flows(Member b, Line l) {
        boolean more = false;
        int low = l.stack.size() - takes(l).size();
        List<String> taken = l.stack.subList(low, l.stack.size());
        List<String> left = leaves(l, taken, l.locals);
        List<String> before = new ArrayList<>(l.locals);
        if (left != null) {
            List<String> locals = new ArrayList<>(l.locals);
            if (l.word.equals("store")) {
                locals.set(Integer.parseInt(l.operands.get(0)), taken.get(0));
            }
            List<String> stack = new ArrayList<>(l.stack.subList(0, low));
            stack.addAll(left);
            for (Line n : following(l)) {
                more |= arrives(n, locals, stack);
            }
        }
        for (Line k : b.catches) {
            if (covers(b, k, l.inBody)) {
                more |= arrives(handler(b, k), before, List.of(k.operands.get(3)));
            }
        }
        return more;
    }

    private boolean holds(Line l) {
        List<String> told = takes(l);
        int low = l.stack.size() - told.size();
        for (int k = 0; k < told.size(); k++) {
            if (!suits(l.stack.get(low + k), told.get(k), l.stack.get(low))) {
                return false;
            }
        }
        switch (l.word) {
            case "load": return !l.locals.get(Integer.parseInt(l.operands.get(0))).equals("UNSET");
            case "inc": return l.locals.get(Integer.parseInt(l.operands.get(0))).equals("int");
            case "give": return !l.body.result.equals("none");
            case "back": return l.body.result.equals("none");
            default: return true;
        }
    }

    private boolean suits(String type, String told, String array) {
        switch (told) {
            case "any": return true;
            case "none": return false;
            case "ref": return isRef(type);
            case "array": return type.equals("null") || isArray(type);
            case "element":
                return array.equals("null") ? !type.equals("UNSET") : isArray(array) && below(type, element(array));
            default: return below(type, told);
        }
    }

    // ---- 5 RUNNING

    /** A thrown object, or the end of a run. */
    private static final class Thrown extends RuntimeException {
        private static final long serialVersionUID = 1L;
        final transient Thing thing;
        final int outcome;

        Thrown(Thing thing, int outcome) {
            super(null, null, false, false);
            this.thing = thing;
            this.outcome = outcome;
        }
    }

    private final List<Frame> frames = new ArrayList<>();
    private int inputAt;

    int run(int fuel) {
        if (program == null || fuel < 0 || fuel > 20000) {
            return -1;
        }
        loading = program;
        steps = 0;
        thrown = -1;
        objects = 0;
        cells = 0;
        outs.clear();
        inputAt = 0;
        frames.clear();
        int outcome = runFrom(program.main, fuel);
        input.clear();
        return outcome;
    }

    private int runFrom(Member main, int fuel) {
        frames.add(frame(main, List.of()));
        while (true) {
            Frame f = frames.get(frames.size() - 1);
            Line l = f.body.code.get(f.next);
            place = l.number;
            if (steps == fuel) {
                return 2;
            }
            steps++;
            try {
                f.next++;
                perform(f, l);
                if (frames.isEmpty()) {
                    return 0;
                }
            } catch (Thrown t) {
                if (t.thing == null) {
                    return t.outcome;
                }
                if (!isCaught(t.thing)) {
                    thrown = t.thing.site;
                    return 1;
                }
            }
        }
    }

    private boolean isCaught(Thing thing) {
        while (!frames.isEmpty()) {
            Frame f = frames.get(frames.size() - 1);
            for (Line k : f.body.catches) {
                if (covers(f.body, k, f.next - 1) && below(thing.type, k.operands.get(3))) {
                    f.stack.clear();
                    f.stack.add(thing);
                    f.next = f.body.labels.get(k.operands.get(2));
                    return true;
                }
            }
            frames.remove(frames.size() - 1);
        }
        return false;
    }

    private static Frame frame(Member body, List<Object> arguments) {
        Frame f = new Frame();
        f.body = body;
        f.locals = new Object[body.locals];
        for (int k = 0; k < body.locals; k++) {
            f.locals[k] = k < arguments.size() ? arguments.get(k) : "unset";
        }
        return f;
    }

    private Thing make(String type, int count, int site) {
        if (objects == 2000 || (long) cells + count > 12000) {
            throw new Thrown(null, 3);
        }
        objects++;
        cells += count;
        Thing t = new Thing();
        t.type = type;
        t.site = site;
        return t;
    }

    private void error(String name) {
        int at = List.of(KNOWN).indexOf(name);
        throw new Thrown(make(name, 0, 48 + at - 2), 0);
    }

    private Thing notNull(Object o) {
        if (o == null) {
            error("NullError");
        }
        return (Thing) o;
    }

    private void perform(Frame f, Line l) {
        int count = takes(l).size();
        List<Object> from = f.stack.subList(f.stack.size() - count, f.stack.size());
        Object[] v = from.toArray();
        from.clear();
        String operand = l.operands.isEmpty() ? "" : l.operands.get(0);
        if (OPERANDS.get(l.word).equals("L")) {
            if (decides(l.word, v)) {
                f.next = f.body.labels.get(operand);
            }
            return;
        }
        switch (l.word) {
            case "push": f.stack.add(Integer.parseInt(operand)); break;
            case "null": f.stack.add(null); break;
            case "load": f.stack.add(f.locals[Integer.parseInt(operand)]); break;
            case "store": f.locals[Integer.parseInt(operand)] = v[0]; break;
            case "inc":
                int k = Integer.parseInt(operand);
                f.locals[k] = (Integer) f.locals[k] + Integer.parseInt(l.operands.get(1));
                break;
            case "dup": f.stack.add(v[0]); f.stack.add(v[0]); break;
            case "pop": break;
            case "swap": f.stack.add(v[1]); f.stack.add(v[0]); break;
            case "neg": f.stack.add(-(Integer) v[0]); break;
            case "new": f.stack.add(object(operand, l.site)); break;
            case "cast":
                if (v[0] != null && !below(((Thing) v[0]).type, operand)) {
                    error("CastError");
                }
                f.stack.add(v[0]);
                break;
            case "is": f.stack.add(v[0] != null && below(((Thing) v[0]).type, operand) ? 1 : 0); break;
            case "get": f.stack.add(notNull(v[0]).fields.get(operand.split("\\.")[1])); break;
            case "put": notNull(v[0]).fields.put(operand.split("\\.")[1], v[1]); break;
            case "read": f.stack.add(inputAt < input.size() ? input.get(inputAt++) : (Integer) 0); break;
            case "write": outs.add((Integer) v[0]); break;
            case "throw": throw new Thrown(notNull(v[0]), 0);
            case "array": case "length": case "aload": case "astore": array(f, l, v); break;
            case "call": case "send": case "give": case "back": transfer(f, l, v); break;
            default: f.stack.add(calculate(l.word, (Integer) v[0], (Integer) v[1])); break;
        }
    }

    private Thing object(String type, int site) {
        Map<String, Object> fields = new HashMap<>();
        for (String c = type; c != null; c = program.classes.get(c).above) {
            for (Map.Entry<String, String> e : program.classes.get(c).fields.entrySet()) {
                fields.put(e.getKey(), e.getValue().equals("int") ? (Integer) 0 : null);
            }
        }
        Thing t = make(type, fields.size(), site);
        t.fields.putAll(fields);
        return t;
    }

    private static boolean decides(String word, Object[] v) {
        switch (word) {
            case "goto": return true;
            case "isnull": return v[0] == null;
            case "notnull": return v[0] != null;
            case "same": return v[0] == v[1];
            case "other": return v[0] != v[1];
            default: break;
        }
        int order = Integer.compare((Integer) v[0], (Integer) v[1]);
        switch (word) {
            case "eq": return order == 0;
            case "ne": return order != 0;
            case "lt": return order < 0;
            case "le": return order <= 0;
            case "gt": return order > 0;
            default: return order >= 0;
        }
    }

    private void array(Frame f, Line l, Object[] v) {
        if (l.word.equals("array")) {
            int count = (Integer) v[0];
            if (count < 0) {
                error("SizeError");
            }
            Thing t = make(l.operands.get(0) + "[]", count, l.site);
            t.elements = new Object[count];
            if (l.operands.get(0).equals("int")) {
                java.util.Arrays.fill(t.elements, 0);
            }
            f.stack.add(t);
            return;
        }
        Object[] row = notNull(v[0]).elements;
        if (l.word.equals("length")) {
            f.stack.add(row.length);
            return;
        }
        int index = (Integer) v[1];
        if (index < 0 || index >= row.length) {
            error("IndexError");
        }
        if (l.word.equals("aload")) {
            f.stack.add(row[index]);
            return;
        }
        String held = element(((Thing) v[0]).type);
        if (v[2] instanceof Thing && !below(((Thing) v[2]).type, held)) {
            error("StoreError");
        }
        row[index] = v[2];
    }

    private void transfer(Frame f, Line l, Object[] v) {
        if (l.word.equals("give") || l.word.equals("back")) {
            frames.remove(frames.size() - 1);
            if (l.word.equals("give")) {
                frames.get(frames.size() - 1).stack.add(v[0]);
            }
            return;
        }
        Member body = target(l);
        if (l.word.equals("send")) {
            body = bodyOf(program, notNull(v[0]).type, body.name);
        }
        if (frames.size() == 64) {
            throw new Thrown(null, 4);
        }
        frames.add(frame(body, java.util.Arrays.asList(v)));
    }

    private int calculate(String word, int a, int b) {
        if (word.matches("div|rem") && b == 0) {
            error("DivideError");
        }
        switch (word) {
            case "add": return a + b;
            case "sub": return a - b;
            case "mul": return (int) ((long) a * b);
            case "div": return (int) ((long) a / b);
            case "rem": return (int) ((long) a % b);
            case "and": return a & b;
            case "or": return a | b;
            case "xor": return a ^ b;
            case "shl": return (int) ((long) a << (b & 31));
            default: return (int) Math.floorDiv((long) a, 1L << (b & 31));
        }
    }
}
