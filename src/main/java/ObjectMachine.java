import java.util.Arrays;

/**
 * Loads small object programs, checks their names and types, and runs them.
 *
 * The way of a text: Text splits it into tokens, Syntax looks at their order, Names finds what they name and
 * builds a Program, Heights and TypeFlow check what lies on the stack and in the locals, Runner runs it.
 * All rows are made in the constructors and used again, so that no call makes an object.
 */
public final class ObjectMachine {

    private static final int MOST_BYTES = 16000;
    private static final int MOST_BYTES_IN_ALL = 65536;
    private static final int BYTES_OF_A_FEED = 20;
    private static final int MOST_FUEL = 20000;

    private static final int MOST_CLASSES = 32;
    private static final int MOST_FIELDS = 48;
    private static final int MOST_BODIES = 48;
    private static final int MOST_CATCHES = 64;
    private static final int MOST_INSTRUCTIONS = 1024;
    private static final int MOST_SITES = 48;
    private static final int MOST_LOCALS = 12;
    private static final int MOST_HEIGHT = 8;
    /** The locals of a body, and above them its stack. */
    private static final int ROW = 20;
    /** Far above the rounds that heights or types can need to flow through a body. */
    private static final int MOST_ROUNDS = 1000000;

    private static final int MOST_OBJECTS = 2000;
    private static final int MOST_CELLS = 12000;
    private static final int MOST_DEPTH = 64;
    private static final int MOST_INTS = 256;

    private static final int NO_FAULT = -1;
    private static final int NOT_THERE = -1;

    /** Types: classes are 0 .. 31, arrays of them 32 .. 63; all up to NULL are references. */
    private static final int OBJECT = 0;
    private static final int ERROR = 1;
    private static final int NULL_ERROR = 2;
    private static final int INDEX_ERROR = 3;
    private static final int SIZE_ERROR = 4;
    private static final int DIVIDE_ERROR = 5;
    private static final int CAST_ERROR = 6;
    private static final int STORE_ERROR = 7;
    private static final int KNOWN_CLASSES = 8;
    private static final int ARRAYS = 32;
    private static final int INT_ARRAY = 64;
    private static final int NULL = 65;
    private static final int INT = 66;
    private static final int UNSET = 67;
    /** No type at all: the result of a body without one. */
    private static final int NONE = 68;
    /** Told but never met: null or an array of any kind. */
    private static final int ANY_ARRAY = 69;

    private static final String KNOWN_NAMES = "Object Error NullError IndexError SizeError DivideError CastError StoreError";
    /** The words of the instructions; the place of a word in this row is the number of the instruction. */
    private static final String INSTRUCTIONS = "push null load store inc dup pop swap add sub mul div rem and or xor shl shr neg goto eq ne lt le gt ge isnull notnull same other new array length aload astore get put cast is call send throw give back read write";

    private static final int PUSH = 0;
    private static final int PUSH_NULL = 1;
    private static final int LOAD = 2;
    private static final int STORE = 3;
    private static final int INC = 4;
    private static final int DUP = 5;
    private static final int POP = 6;
    private static final int SWAP = 7;
    private static final int ADD = 8;
    private static final int SUB = 9;
    private static final int MUL = 10;
    private static final int DIV = 11;
    private static final int REM = 12;
    private static final int AND = 13;
    private static final int OR = 14;
    private static final int XOR = 15;
    private static final int SHL = 16;
    private static final int SHR = 17;
    private static final int NEG = 18;
    private static final int GOTO = 19;
    private static final int EQ = 20;
    private static final int NE = 21;
    private static final int LT = 22;
    private static final int LE = 23;
    private static final int GT = 24;
    private static final int GE = 25;
    private static final int ISNULL = 26;
    private static final int NOTNULL = 27;
    private static final int SAME = 28;
    private static final int OTHER = 29;
    private static final int NEW = 30;
    private static final int ARRAY = 31;
    private static final int LENGTH = 32;
    private static final int ALOAD = 33;
    private static final int ASTORE = 34;
    private static final int GET = 35;
    private static final int PUT = 36;
    private static final int CAST = 37;
    private static final int IS = 38;
    private static final int CALL = 39;
    private static final int SEND = 40;
    private static final int THROW = 41;
    private static final int GIVE = 42;
    private static final int BACK = 43;
    private static final int READ = 44;
    private static final int WRITE = 45;
    /** Kinds of tokens beside the words of instructions. */
    private static final int CATCH = 46;
    private static final int LABEL = 47;
    private static final int CLASS = 48;
    private static final int FIELD = 49;
    private static final int STATIC = 50;
    private static final int METHOD = 51;
    private static final int BODY_END = 52;
    private static final int PART = 53;

    /** What instructions take from the stack and leave there; of call and send the body tells it. */
    private static final int[] TAKES = {
        0, 0, 0, 1, 0, 1, 1, 2,
        2, 2, 2, 2, 2, 2, 2, 2, 2, 2, 1,
        0, 2, 2, 2, 2, 2, 2, 1, 1, 2, 2,
        0, 1, 1, 2, 3, 1, 2, 1, 1,
        0, 0, 1, 1, 0, 0, 1};
    private static final int[] LEAVES = {
        1, 1, 1, 0, 0, 2, 0, 2,
        1, 1, 1, 1, 1, 1, 1, 1, 1, 1, 1,
        0, 0, 0, 0, 0, 0, 0, 0, 0, 0, 0,
        1, 1, 1, 1, 0, 1, 0, 1, 1,
        0, 0, 0, 0, 0, 1, 0};

    /** The bytes since the last end(), four in each int, as they came. */
    private final int[] fed = new int[MOST_BYTES / 4];
    private int fedCount;
    private int fedInAll;
    private final Text text;
    private final Syntax syntax;
    private final Names names;
    private final Heights heights;
    private final TypeFlow flow;
    private final Runner runner;
    private Program program;
    /** Where the next text is built, so that a fault leaves the program as it was. */
    private Program spare;
    private boolean hasProgram;
    private int faultToken = NO_FAULT;

    public ObjectMachine() {
        Text noText = new Text();
        Program noProgram = new Program();
        Program unbuilt = new Program();
        text = noText;
        syntax = new Syntax(noText);
        names = new Names(noText, unbuilt);
        heights = new Heights(unbuilt);
        flow = new TypeFlow(unbuilt);
        runner = new Runner(noProgram);
        program = noProgram;
        spare = unbuilt;
    }

    public int feed(int a, int b, int c, int d, int e) {
        if (fedCount > MOST_BYTES - BYTES_OF_A_FEED || fedInAll > MOST_BYTES_IN_ALL - BYTES_OF_A_FEED) {
            return -1;
        }
        int at = fedCount / 4;
        fed[at] = a;
        fed[at + 1] = b;
        fed[at + 2] = c;
        fed[at + 3] = d;
        fed[at + 4] = e;
        fedCount += BYTES_OF_A_FEED;
        fedInAll += BYTES_OF_A_FEED;
        return fedCount;
    }

    public boolean end(int n) {
        if (n < 0 || n > fedCount) {
            return false;
        }
        text.take(fed, n);
        fedCount = 0;
        return true;
    }

    public int load() {
        int fault = 1;
        faultToken = text.split() ? NO_FAULT : text.tokens;
        if (faultToken == NO_FAULT) {
            fault = 2;
            faultToken = syntax.firstFault();
        }
        if (faultToken == NO_FAULT) {
            fault = 3;
            faultToken = nameFault();
        }
        if (faultToken == NO_FAULT) {
            fault = 4;
            faultToken = typeFault();
        }
        text.useUp();
        if (faultToken == NO_FAULT) {
            fault = 0;
            takeSpare();
        }
        return fault;
    }

    private int nameFault() {
        names.begin(spare);
        int at = names.classFault();
        if (at == NO_FAULT) {
            at = names.memberFault();
        }
        if (at == NO_FAULT) {
            at = names.lineFault();
        }
        return at == NO_FAULT ? names.mainFault() : at;
    }

    private int typeFault() {
        heights.begin(spare);
        flow.begin(spare);
        for (int b = 0; b < spare.bodies; b++) {
            int i = heights.firstFault(b);
            if (i == NO_FAULT) {
                i = flow.firstFault(b);
            }
            if (i != NO_FAULT) {
                return spare.code.word[i];
            }
        }
        return NO_FAULT;
    }

    private void takeSpare() {
        Program old = program;
        program = spare;
        spare = old;
        hasProgram = true;
    }

    public int faultAt() {
        return faultToken;
    }

    public int size(int what) {
        if (!hasProgram) {
            return -1;
        }
        switch (what) {
            case 0: return program.code.count;
            case 1: return program.code.sites;
            case 2: return program.bodies;
            case 3: return program.classes.fields;
            case 4: return program.classes.count - KNOWN_CLASSES;
            case 5: return program.code.catches;
            default: return -1;
        }
    }

    public int height(int i) {
        if (!hasProgram || i < 0 || i >= program.code.count) {
            return -1;
        }
        return program.code.height[i];
    }

    public boolean input(int v) {
        return runner.addInput(v);
    }

    public int run(int fuel) {
        if (!hasProgram || fuel < 0 || fuel > MOST_FUEL) {
            return -1;
        }
        return runner.outcomeOf(program, fuel);
    }

    public int steps() {
        return runner.steps;
    }

    public int place() {
        return runner.place;
    }

    public int thrown() {
        return runner.thrownSite;
    }

    public int made(int what) {
        switch (what) {
            case 0: return runner.heap.objects;
            case 1: return runner.heap.used;
            default: return -1;
        }
    }

    public int written() {
        return runner.written;
    }

    public int out(int k) {
        if (k < 0 || k >= runner.written || k >= MOST_INTS) {
            return 0;
        }
        return runner.outs[k];
    }

    public int strays() {
        return runner.strays;
    }

    /** The bytes of a text, its tokens, and what each token is by its form. */
    private static final class Text {
        private final byte[] bytes = new byte[MOST_BYTES];
        private int length;
        private final int[] from = new int[MOST_BYTES];
        private final int[] to = new int[MOST_BYTES];
        /** What begins at a token: an instruction, a line or a member of another kind, or nothing (PART). */
        private final byte[] kind = new byte[MOST_BYTES];
        private int tokens;

        void take(int[] fed, int n) {
            length = n < 0 || n > MOST_BYTES || n > 4 * fed.length ? 0 : n;
            for (int i = 0; i < length; i++) {
                bytes[i] = (byte) (fed[i >> 2] >> (24 - 8 * (i & 3)));
            }
        }

        void useUp() {
            length = 0;
        }

        /** False at the first byte that no text may have; the tokens are then those before it. */
        boolean split() {
            tokens = 0;
            boolean inRemark = false;
            boolean inWord = false;
            for (int i = 0; i < length; i++) {
                int c = bytes[i];
                if (c < 32 && c != 9 && c != 10 && c != 13 || c == 127) {
                    return false;
                }
                inRemark = c == ';' || inRemark && c != 10;
                boolean blank = inRemark || c <= 32;
                boolean mark = c == '(' || c == ')' || c == '{' || c == '}' || c == ':';
                if (!blank && (mark || !inWord)) {
                    from[tokens] = i;
                    tokens++;
                }
                if (!blank) {
                    to[tokens - 1] = i + 1;
                }
                inWord = !blank && !mark;
            }
            return true;
        }

        /** Where a token begins in the text; 0 if there is none. */
        int start(int t) {
            return t >= 0 && t < tokens ? from[t] : 0;
        }

        /** The place behind a token; 0 if there is none. */
        int stop(int t) {
            return t >= 0 && t < tokens ? to[t] : 0;
        }

        boolean isMark(int t, int mark) {
            return t >= 0 && t < tokens && bytes[from[t]] == mark;
        }

        boolean isWord(int t, String word) {
            return t >= 0 && t < tokens && isText(from[t], to[t], word);
        }

        boolean isText(int low, int high, String word) {
            if (low < 0 || high > length || high - low != word.length()) {
                return false;
            }
            for (int k = 0; k < word.length(); k++) {
                if (bytes[low + k] != word.charAt(k)) {
                    return false;
                }
            }
            return true;
        }

        /** True if token t has the bytes from low up to before high. */
        boolean same(int t, int low, int high) {
            if (t < 0 || t >= tokens || low < 0 || high > length || high - low != to[t] - from[t]) {
                return false;
            }
            int gap = low - from[t];
            for (int k = from[t]; k < to[t]; k++) {
                if (bytes[k] != bytes[k + gap]) {
                    return false;
                }
            }
            return true;
        }

        /** The number of the word from low up to before high in a row of words with one blank between. */
        int numberIn(String row, int low, int high) {
            int number = 0;
            int at = low;
            boolean fits = low >= 0 && high <= length;
            for (int k = 0; k < row.length(); k++) {
                char c = row.charAt(k);
                if (c != ' ') {
                    fits = fits && at < high && bytes[at] == c;
                    at++;
                } else if (fits && at == high) {
                    return number;
                } else {
                    number++;
                    at = low;
                    fits = low >= 0 && high <= length;
                }
            }
            return fits && at == high ? number : NOT_THERE;
        }

        boolean isName(int t) {
            return t >= 0 && t < tokens && isNamed(from[t], to[t], 'a');
        }

        boolean isClassName(int t) {
            return t >= 0 && t < tokens && isNamed(from[t], to[t], 'A');
        }

        /** A name whose first letter is one of the 26 from the letter first on. */
        private boolean isNamed(int low, int high, int first) {
            if (low < 0 || high > length || low >= high || high - low > 24) {
                return false;
            }
            if (bytes[low] < first || bytes[low] > first + 25) {
                return false;
            }
            for (int k = low; k < high; k++) {
                int c = bytes[k];
                boolean letter = c >= 'a' && c <= 'z' || c >= 'A' && c <= 'Z';
                if (!letter && c != '_' && (c < '0' || c > '9')) {
                    return false;
                }
            }
            return true;
        }

        boolean isReference(int t) {
            int dot = dotOf(t);
            return dot >= 0 && isNamed(from[t], dot, 'A') && isNamed(dot + 1, to[t], 'a');
        }

        /** Where the first dot of a token lies in the text. */
        int dotOf(int t) {
            if (t >= 0 && t < tokens) {
                for (int k = from[t]; k < to[t]; k++) {
                    if (bytes[k] == '.') {
                        return k;
                    }
                }
            }
            return NOT_THERE;
        }

        boolean isType(int t) {
            int low = start(t);
            int high = elementStop(t);
            return isText(low, high, "int") || isNamed(low, high, 'A');
        }

        /** The place behind the word of a type without its [], if it has one. */
        int elementStop(int t) {
            int high = stop(t);
            return high - 2 >= start(t) && isText(high - 2, high, "[]") ? high - 2 : high;
        }

        boolean isNumber(int t) {
            if (t < 0 || t >= tokens) {
                return false;
            }
            int low = bytes[from[t]] == '-' ? from[t] + 1 : from[t];
            int digits = to[t] - low;
            if (digits < 1 || digits > 10) {
                return false;
            }
            for (int k = low; k < to[t]; k++) {
                if (bytes[k] < '0' || bytes[k] > '9') {
                    return false;
                }
            }
            long value = longOf(t);
            return value == (int) value;
        }

        int number(int t) {
            return isNumber(t) ? (int) longOf(t) : 0;
        }

        private long longOf(int t) {
            boolean minus = bytes[from[t]] == '-';
            long value = 0;
            for (int k = minus ? from[t] + 1 : from[t]; k < to[t]; k++) {
                value = value * 10 + (bytes[k] - '0');
            }
            return minus ? -value : value;
        }
    }

    /** Looks whether the tokens are a program, and marks where its members and lines begin. */
    private static final class Syntax {
        private final Text text;
        /** What must follow, a letter for each part, and how much of it was there. */
        private String rest = "";
        private int done;
        /** How many { are open. */
        private int level;

        Syntax(Text text) {
            this.text = text;
        }

        int firstFault() {
            rest = "";
            done = 0;
            level = 0;
            for (int t = 0; t < text.tokens; t++) {
                text.kind[t] = PART;
                boolean right = done < rest.length() ? takesPart(t, rest.charAt(done)) : begins(t);
                if (!right) {
                    return t;
                }
            }
            return level == 0 && done == rest.length() ? NO_FAULT : text.tokens;
        }

        private boolean takesPart(int t, int part) {
            if (part == 'P' && !text.isMark(t, ')')) {
                return text.isType(t);
            }
            done++;
            level += part == '{' ? 1 : 0;
            switch (part) {
                case 'P': return true;
                case 'n': return text.isName(t);
                case 'C': return text.isClassName(t);
                case 'o': return text.isWord(t, "of");
                case 'T': return text.isType(t);
                case 'R': return text.isType(t) || text.isWord(t, "none");
                case 'N': return text.isNumber(t);
                case 'E': return text.isClassName(t) || text.isWord(t, "int");
                case 'Y': return text.isType(t) && !text.isWord(t, "int");
                case 'F': return text.isReference(t);
                default: return text.isMark(t, part);
            }
        }

        private boolean begins(int t) {
            if (level > 0 && text.isMark(t, '}')) {
                level--;
                text.kind[t] = (byte) (level == 1 ? BODY_END : PART);
                return true;
            }
            switch (level) {
                case 0: return beginsClass(t);
                case 1: return beginsMember(t);
                default: return beginsLine(t);
            }
        }

        private boolean beginsClass(int t) {
            expect(t, CLASS, "CoC{");
            return text.isWord(t, "class");
        }

        private boolean beginsMember(int t) {
            if (text.isWord(t, "field")) {
                expect(t, FIELD, "nT");
                return true;
            }
            boolean isStatic = text.isWord(t, "static");
            expect(t, isStatic ? STATIC : METHOD, "n(PRN{");
            return isStatic || text.isWord(t, "method");
        }

        private boolean beginsLine(int t) {
            boolean name = text.isName(t);
            int op = name ? text.numberIn(INSTRUCTIONS, text.start(t), text.stop(t)) : NOT_THERE;
            boolean isCatch = text.isWord(t, "catch");
            if (text.isMark(t + 1, ':') || op == NOT_THERE && !isCatch) {
                // Another name may still become a label: then the fault lies behind it.
                expect(t, LABEL, ":");
            } else if (isCatch) {
                expect(t, CATCH, "nnnC");
            } else {
                expect(t, op, operandsOf(op));
            }
            return name;
        }

        private void expect(int t, int kind, String parts) {
            text.kind[t] = (byte) kind;
            rest = parts;
            done = 0;
        }

        private static String operandsOf(int op) {
            switch (op) {
                case PUSH: case LOAD: case STORE: return "N";
                case INC: return "NN";
                case NEW: return "C";
                case ARRAY: return "E";
                case GET: case PUT: case CALL: case SEND: return "F";
                case CAST: case IS: return "Y";
                default: return op >= GOTO && op <= OTHER ? "n" : "";
            }
        }
    }

    /** The classes of a program with their fields, and which type is below which. */
    private static final class Classes {
        private int count;
        /** The token of a class's name: known only while its text is loaded, as all words of tokens. */
        private final int[] word = new int[MOST_CLASSES];
        private final int[] parent = new int[MOST_CLASSES];
        /** Bit k is set if class k is the class or above it; a class has a higher number than those above it. */
        private final int[] above = new int[MOST_CLASSES];
        /** How many fields an object of the class has. */
        private final int[] slots = new int[MOST_CLASSES];
        private int fields;
        private final int[] fieldWord = new int[MOST_FIELDS];
        private final int[] fieldOwner = new int[MOST_FIELDS];
        private final int[] fieldType = new int[MOST_FIELDS];
        private final int[] fieldSlot = new int[MOST_FIELDS];

        void begin() {
            fields = 0;
            count = 0;
            addClass(NOT_THERE, NOT_THERE);
            addClass(NOT_THERE, OBJECT);
            for (int c = NULL_ERROR; c < KNOWN_CLASSES; c++) {
                addClass(NOT_THERE, ERROR);
            }
        }

        void addClass(int name, int over) {
            if (count < MOST_CLASSES) {
                word[count] = name;
                parent[count] = over;
                above[count] = 1 << count | (over >= 0 && over < count ? above[over] : 0);
                slots[count] = 0;
                count++;
            }
        }

        void addField(int owner, int name, int type) {
            if (fields < MOST_FIELDS && isClass(owner)) {
                fieldWord[fields] = name;
                fieldOwner[fields] = owner;
                fieldType[fields] = type;
                fieldSlot[fields] = slots[owner];
                slots[owner]++;
                fields++;
            }
        }

        boolean isClass(int type) {
            return type >= 0 && type < count;
        }

        static boolean isArray(int type) {
            return type >= ARRAYS && type <= INT_ARRAY;
        }

        boolean isAbove(int high, int low) {
            return high >= 0 && high < count && low >= 0 && low < count && (above[low] >> high & 1) != 0;
        }

        boolean isBelow(int low, int high) {
            if (low == high || high == UNSET) {
                return true;
            }
            if (high == ANY_ARRAY) {
                return low == NULL || isArray(low);
            }
            if (low > NULL || high > NULL) {
                return false;
            }
            if (low == NULL || high == OBJECT) {
                return true;
            }
            return isAbove(high, low) || low >= ARRAYS && isAbove(high - ARRAYS, low - ARRAYS);
        }

        int join(int a, int b) {
            if (isBelow(a, b)) {
                return b;
            }
            if (isBelow(b, a)) {
                return a;
            }
            if (a > NULL || b > NULL) {
                return UNSET;
            }
            if (isClass(a) && isClass(b)) {
                return nearestAbove(a, b);
            }
            boolean classArrays = isClass(a - ARRAYS) && isClass(b - ARRAYS);
            return classArrays ? ARRAYS + nearestAbove(a - ARRAYS, b - ARRAYS) : OBJECT;
        }

        private int nearestAbove(int a, int b) {
            return 31 - Integer.numberOfLeadingZeros(above[a] & above[b]);
        }

        /** The type of an array's elements; of null there is none, of all else it is unset. */
        int elementOf(int type) {
            if (type == INT_ARRAY) {
                return INT;
            }
            if (type == NULL) {
                return NONE;
            }
            return isArray(type) ? type - ARRAYS : UNSET;
        }

        boolean isElement(int type, int array) {
            return array == NULL ? type != UNSET : isBelow(type, elementOf(array));
        }
    }

    /** The instructions and catches of a program. */
    private static final class Code {
        private int count;
        private final int[] op = new int[MOST_INSTRUCTIONS];
        /** The operand: a number, a local, an instruction to go to, a type, a field or a body. */
        private final int[] a = new int[MOST_INSTRUCTIONS];
        /** The second number of inc, or the class of a reference. */
        private final int[] b = new int[MOST_INSTRUCTIONS];
        private final int[] word = new int[MOST_INSTRUCTIONS];
        private final int[] body = new int[MOST_INSTRUCTIONS];
        private final int[] site = new int[MOST_INSTRUCTIONS];
        private final int[] height = new int[MOST_INSTRUCTIONS];
        private int sites;
        private int catches;
        private final int[] catchFrom = new int[MOST_CATCHES];
        private final int[] catchTo = new int[MOST_CATCHES];
        private final int[] catchAt = new int[MOST_CATCHES];
        private final int[] catchClass = new int[MOST_CATCHES];

        void begin() {
            count = 0;
            sites = 0;
            catches = 0;
        }

        void addInstruction(int number, int token, int ofBody) {
            if (count < MOST_INSTRUCTIONS) {
                op[count] = number;
                a[count] = 0;
                b[count] = 0;
                word[count] = token;
                body[count] = ofBody;
                height[count] = -1;
                site[count] = sites;
                sites += isMaking(number) ? 1 : 0;
                count++;
            }
        }

        void addCatch(int from, int to, int at, int type) {
            if (catches < MOST_CATCHES) {
                catchFrom[catches] = from;
                catchTo[catches] = to;
                catchAt[catches] = at;
                catchClass[catches] = type;
                catches++;
            }
        }

        static boolean isMaking(int op) {
            return op == NEW || op == ARRAY;
        }

        static boolean goesOn(int op) {
            return op != GOTO && op != THROW && op != GIVE && op != BACK;
        }

        static boolean goesToLabel(int op) {
            return op >= GOTO && op <= OTHER;
        }

        boolean isCaught(int i, int k) {
            return catchFrom[k] <= i && i < catchTo[k];
        }
    }

    /** A program: classes, bodies and code, and what each instruction takes and leaves. */
    private static final class Program {
        private final Classes classes = new Classes();
        private final Code code = new Code();
        private int bodies;
        private final int[] bodyWord = new int[MOST_BODIES];
        private final int[] owner = new int[MOST_BODIES];
        private final boolean[] isMethod = new boolean[MOST_BODIES];
        /** How many values a body takes; of a method the object is the first. */
        private final int[] arity = new int[MOST_BODIES];
        private final int[] parameters = new int[MOST_BODIES * MOST_LOCALS];
        private final int[] result = new int[MOST_BODIES];
        private final int[] locals = new int[MOST_BODIES];
        private final int[] first = new int[MOST_BODIES];
        private final int[] stop = new int[MOST_BODIES];
        private final int[] firstCatch = new int[MOST_BODIES];
        private final int[] stopCatch = new int[MOST_BODIES];
        /** Of methods that replace one another the topmost; it stands for all of them in code. */
        private final int[] root = new int[MOST_BODIES];
        /** For each class, and in it for each root, the body that runs. */
        private final int[] chosen = new int[MOST_CLASSES * MOST_BODIES];
        private int main;

        void begin() {
            classes.begin();
            code.begin();
            bodies = 0;
            main = 0;
            Arrays.fill(chosen, NOT_THERE);
        }

        /** Gives a class the fields and methods of the one above it, whose own are all there by now. */
        void inherit(int c) {
            if (c <= 0 || c >= classes.count) {
                return;
            }
            int over = classes.parent[c];
            if (over >= 0) {
                classes.slots[c] = classes.slots[over];
                System.arraycopy(chosen, over * MOST_BODIES, chosen, c * MOST_BODIES, MOST_BODIES);
            }
        }

        /** Adds a body that replaces another one, or none. */
        void addBody(int ofClass, int name, boolean method, int replaced) {
            int b = bodies;
            if (b >= MOST_BODIES || !classes.isClass(ofClass)) {
                return;
            }
            bodies++;
            bodyWord[b] = name;
            owner[b] = ofClass;
            isMethod[b] = method;
            arity[b] = 0;
            root[b] = replaced == NOT_THERE ? b : root[replaced];
            if (method) {
                addParameter(b, ofClass);
                chosen[ofClass * MOST_BODIES + root[b]] = b;
            }
        }

        void addParameter(int b, int type) {
            if (arity[b] < MOST_LOCALS) {
                parameters[b * MOST_LOCALS + arity[b]] = type;
            }
            arity[b]++;
        }

        /** The body that runs for an object of a class, of those that replace one another. */
        int bodyOf(int type, int rootBody) {
            int found = classes.isClass(type) ? chosen[type * MOST_BODIES + rootBody] : NOT_THERE;
            return found == NOT_THERE ? rootBody : found;
        }

        int takes(int i) {
            int op = code.op[i];
            return op == CALL || op == SEND ? arity[code.a[i]] : TAKES[op];
        }

        int leaves(int i) {
            int op = code.op[i];
            if (op == CALL || op == SEND) {
                return result[code.a[i]] == NONE ? 0 : 1;
            }
            return LEAVES[op];
        }

        /** What value k of those that an instruction takes must be below, the lowest being 0. */
        int told(int i, int k) {
            int a = code.a[i];
            int b = code.b[i];
            switch (code.op[i]) {
                case STORE: case DUP: case POP: case SWAP: return UNSET;
                case ISNULL: case NOTNULL: case SAME: case OTHER: case CAST: case IS: return OBJECT;
                case LENGTH: return ANY_ARRAY;
                case ALOAD: return k == 0 ? ANY_ARRAY : INT;
                case ASTORE: return k == 0 ? ANY_ARRAY : k == 1 ? INT : UNSET;
                case GET: return b;
                case PUT: return k == 0 ? b : classes.fieldType[a];
                case CALL: return parameters[a * MOST_LOCALS + k];
                case SEND: return k == 0 ? b : parameters[a * MOST_LOCALS + k];
                case THROW: return ERROR;
                case GIVE: return result[code.body[i]];
                default: return INT;
            }
        }

        /** The type that an instruction leaves, where it is told and not moved from elsewhere. */
        int leftBy(int i) {
            switch (code.op[i]) {
                case PUSH_NULL: return NULL;
                case NEW: case ARRAY: case CAST: return code.a[i];
                case GET: return classes.fieldType[code.a[i]];
                case CALL: case SEND: return result[code.a[i]];
                default: return INT;
            }
        }

        /**
         * True if an instruction may begin with these types, its body's locals from the index base on and the
         * lowest value that it takes at the index low. The element that astore takes is left to others.
         */
        boolean suits(int i, byte[] types, int base, int low) {
            switch (code.op[i]) {
                case LOAD: return types[base + code.a[i]] != UNSET;
                case INC: return types[base + code.a[i]] == INT;
                case BACK: return result[code.body[i]] == NONE;
                default: break;
            }
            int takes = takes(i);
            for (int k = 0; k < takes; k++) {
                if (!classes.isBelow(types[low + k], told(i, k))) {
                    return false;
                }
            }
            return true;
        }
    }

    /** Finds what the words of a text name, in walks through it, and builds the program of it. */
    private static final class Names {
        private final Text text;
        private Program program;
        private Classes classes;
        private Code code;
        /** The labels of the body that is looked at: their tokens, and the instruction behind each. */
        private final int[] labelWord = new int[MOST_BYTES / 2];
        private final int[] labelPlace = new int[MOST_BYTES / 2];
        private int labels;
        /** The place behind the last instruction of that body. */
        private int stop;
        private int body;

        Names(Text text, Program program) {
            this.text = text;
            this.program = program;
            this.classes = program.classes;
            this.code = program.code;
        }

        void begin(Program built) {
            program = built;
            classes = built.classes;
            code = built.code;
            built.begin();
        }

        int classFault() {
            for (int t = 0; t < text.tokens; t++) {
                if (text.kind[t] == CLASS) {
                    if (classAt(t + 1) != NOT_THERE || classes.count == MOST_CLASSES) {
                        return t + 1;
                    }
                    int over = classAt(t + 3);
                    if (over == NOT_THERE) {
                        return t + 3;
                    }
                    classes.addClass(t + 1, over);
                }
            }
            return NO_FAULT;
        }

        int memberFault() {
            int owner = KNOWN_CLASSES - 1;
            for (int t = 0; t < text.tokens; t++) {
                int at = NO_FAULT;
                switch (text.kind[t]) {
                    case CLASS:
                        owner++;
                        program.inherit(owner);
                        break;
                    case FIELD:
                        at = fieldFault(t, owner);
                        break;
                    case STATIC: case METHOD:
                        at = headFault(t, owner);
                        break;
                    default: break;
                }
                if (at != NO_FAULT) {
                    return at;
                }
            }
            return NO_FAULT;
        }

        private int fieldFault(int t, int owner) {
            int found = fieldNamed(owner, text.start(t + 1), text.stop(t + 1));
            if (found != NOT_THERE || classes.fields == MOST_FIELDS) {
                return t + 1;
            }
            int type = typeAt(t + 2);
            if (type == NOT_THERE) {
                return t + 2;
            }
            classes.addField(owner, t + 1, type);
            return NO_FAULT;
        }

        /** The fault of a body's head: its name, types, result and number of locals. */
        private int headFault(int t, int owner) {
            int replaced = bodyNamed(owner, text.start(t + 1), text.stop(t + 1));
            if (program.bodies == MOST_BODIES || replaced != NOT_THERE && !mayReplace(t, owner, replaced)) {
                return t + 1;
            }
            int b = program.bodies;
            program.addBody(owner, t + 1, text.kind[t] == METHOD, replaced);
            int at = t + 3;
            for (; at < text.tokens && !text.isMark(at, ')'); at++) {
                int type = typeAt(at);
                if (type == NOT_THERE) {
                    return at;
                }
                program.addParameter(b, type);
            }
            int result = text.isWord(at + 1, "none") ? NONE : typeAt(at + 1);
            if (result == NOT_THERE) {
                return at + 1;
            }
            int locals = text.number(at + 2);
            if (locals < program.arity[b] || locals > MOST_LOCALS) {
                return at + 2;
            }
            program.result[b] = result;
            program.locals[b] = locals;
            return NO_FAULT;
        }

        private boolean mayReplace(int t, int owner, int replaced) {
            return text.kind[t] == METHOD && program.isMethod[replaced] && program.owner[replaced] != owner
                && hasSameHead(t + 1, program.bodyWord[replaced]);
        }

        /** True if the types and results behind two names are the same words. */
        private boolean hasSameHead(int name, int otherName) {
            int gap = otherName - name;
            for (int t = name + 1; t < text.tokens; t++) {
                if (!text.same(t, text.start(t + gap), text.stop(t + gap))) {
                    return false;
                }
                if (text.isMark(t, ')')) {
                    return text.same(t + 1, text.start(t + gap + 1), text.stop(t + gap + 1));
                }
            }
            return false;
        }

        int lineFault() {
            body = -1;
            for (int t = 0; t < text.tokens; t++) {
                int at = NO_FAULT;
                switch (text.kind[t]) {
                    case CLASS: case FIELD: case PART: break;
                    case STATIC: case METHOD:
                        beginBody(t);
                        break;
                    case LABEL:
                        at = isFirstLabel(t) ? NO_FAULT : t;
                        break;
                    case CATCH:
                        at = catchFault(t);
                        break;
                    case BODY_END:
                        at = endFault(t);
                        break;
                    default:
                        if (!hasRoomFor(text.kind[t])) {
                            at = t;
                        } else if (!addsInstruction(t)) {
                            at = t + 1;
                        }
                        break;
                }
                if (at != NO_FAULT) {
                    return at;
                }
            }
            return NO_FAULT;
        }

        /** Gathers the labels of a body, as its lines may name those that stand behind them too. */
        private void beginBody(int head) {
            body++;
            program.first[body] = code.count;
            program.firstCatch[body] = code.catches;
            labels = 0;
            stop = code.count;
            for (int t = head + 1; t < text.tokens && text.kind[t] != BODY_END; t++) {
                if (text.kind[t] == LABEL && labels < labelWord.length) {
                    labelWord[labels] = t;
                    labelPlace[labels] = stop;
                    labels++;
                } else if (text.kind[t] < CATCH) {
                    stop++;
                }
            }
        }

        private boolean isFirstLabel(int t) {
            int k = labelNamed(t);
            return k != NOT_THERE && labelWord[k] == t;
        }

        private int catchFault(int t) {
            if (code.catches == MOST_CATCHES) {
                return t;
            }
            int from = placeNamed(t + 1);
            if (from == NOT_THERE) {
                return t + 1;
            }
            int to = placeNamed(t + 2);
            if (to <= from) {
                return t + 2;
            }
            int at = placeNamed(t + 3);
            if (at == NOT_THERE || at >= stop) {
                return t + 3;
            }
            int type = classAt(t + 4);
            if (!classes.isAbove(ERROR, type)) {
                return t + 4;
            }
            code.addCatch(from, to, at, type);
            return NO_FAULT;
        }

        private int endFault(int t) {
            program.stop[body] = code.count;
            program.stopCatch[body] = code.catches;
            boolean empty = code.count == program.first[body];
            return empty || Code.goesOn(code.op[code.count - 1]) ? t : NO_FAULT;
        }

        private boolean hasRoomFor(int op) {
            return code.count < MOST_INSTRUCTIONS && (code.sites < MOST_SITES || !Code.isMaking(op));
        }

        /** Adds the instruction with the word at a token; false if what its first operand names is not there. */
        private boolean addsInstruction(int word) {
            int op = text.kind[word];
            int t = word + 1;
            int i = code.count;
            code.addInstruction(op, word, body);
            switch (op) {
                case PUSH:
                    code.a[i] = text.number(t);
                    return true;
                case LOAD: case STORE: case INC:
                    code.a[i] = text.number(t);
                    code.b[i] = op == INC ? text.number(t + 1) : 0;
                    return code.a[i] >= 0 && code.a[i] < program.locals[body];
                case NEW: case CAST: case IS:
                    code.a[i] = typeAt(t);
                    return code.a[i] != NOT_THERE;
                case ARRAY:
                    code.a[i] = arrayOf(typeAt(t));
                    return code.a[i] != NOT_THERE;
                case GET: case PUT: case CALL: case SEND:
                    return setsReference(i, op, t);
                default:
                    code.a[i] = Code.goesToLabel(op) ? placeNamed(t) : 0;
                    return !Code.goesToLabel(op) || code.a[i] >= 0 && code.a[i] < stop;
            }
        }

        private boolean setsReference(int i, int op, int t) {
            int dot = text.dotOf(t);
            int high = text.stop(t);
            code.b[i] = classIn(text.start(t), dot);
            if (code.b[i] == NOT_THERE) {
                return false;
            }
            if (op == GET || op == PUT) {
                code.a[i] = fieldNamed(code.b[i], dot + 1, high);
                return code.a[i] != NOT_THERE;
            }
            int found = bodyNamed(code.b[i], dot + 1, high);
            if (found == NOT_THERE || program.isMethod[found] != (op == SEND)) {
                return false;
            }
            code.a[i] = program.root[found];
            return true;
        }

        int mainFault() {
            for (int b = 0; b < program.bodies; b++) {
                boolean right = !program.isMethod[b] && program.arity[b] == 0 && program.result[b] == NONE;
                int classWord = classes.word[program.owner[b]];
                if (right && text.isWord(program.bodyWord[b], "main") && text.isWord(classWord, "Main")) {
                    program.main = b;
                    return NO_FAULT;
                }
            }
            return text.tokens;
        }

        private int classAt(int t) {
            return classIn(text.start(t), text.stop(t));
        }

        private int classIn(int low, int high) {
            for (int c = KNOWN_CLASSES; c < classes.count; c++) {
                if (text.same(classes.word[c], low, high)) {
                    return c;
                }
            }
            return text.numberIn(KNOWN_NAMES, low, high);
        }

        private int typeAt(int t) {
            int low = text.start(t);
            int high = text.elementStop(t);
            boolean array = high < text.stop(t);
            if (text.isText(low, high, "int")) {
                return array ? INT_ARRAY : INT;
            }
            int c = classIn(low, high);
            return array ? arrayOf(c) : c;
        }

        private static int arrayOf(int element) {
            if (element == INT) {
                return INT_ARRAY;
            }
            return element == NOT_THERE ? NOT_THERE : ARRAYS + element;
        }

        /** The field of a name that a class has, or one above it; no two of these have the same name. */
        private int fieldNamed(int c, int low, int high) {
            for (int f = 0; f < classes.fields; f++) {
                if (classes.isAbove(classes.fieldOwner[f], c) && text.same(classes.fieldWord[f], low, high)) {
                    return f;
                }
            }
            return NOT_THERE;
        }

        /** The body of a name that a class has, or the nearest above it. */
        private int bodyNamed(int c, int low, int high) {
            int found = NOT_THERE;
            for (int b = 0; b < program.bodies; b++) {
                if (classes.isAbove(program.owner[b], c) && text.same(program.bodyWord[b], low, high)) {
                    // Bodies come in the order of their classes, and a class behind those above it.
                    found = b;
                }
            }
            return found;
        }

        /** The number of the first label with the word of a token. */
        private int labelNamed(int t) {
            int low = text.start(t);
            int high = text.stop(t);
            for (int k = 0; k < labels; k++) {
                if (text.same(labelWord[k], low, high)) {
                    return k;
                }
            }
            return NOT_THERE;
        }

        private int placeNamed(int t) {
            int k = labelNamed(t);
            return k == NOT_THERE ? NOT_THERE : labelPlace[k];
        }
    }

    /** Checks the heights of the stack: from a body's beginning along all edges. */
    private static final class Heights {
        private Program program;
        private Code code;
        /** Of each instruction the heights that come to it, as bits. */
        private final int[] heights = new int[MOST_INSTRUCTIONS];
        private final boolean[] waits = new boolean[MOST_INSTRUCTIONS];
        private boolean someWait;

        Heights(Program program) {
            this.program = program;
            this.code = program.code;
        }

        void begin(Program checked) {
            program = checked;
            code = checked.code;
        }

        /** The first instruction of a body with a fault; without one all heights of the body are set. */
        int firstFault(int b) {
            int first = program.first[b];
            int stop = program.stop[b];
            Arrays.fill(heights, first, stop, 0);
            arrive(first, 1);
            for (int round = 0; round < MOST_ROUNDS && someWait; round++) {
                someWait = false;
                for (int i = first; i < stop; i++) {
                    if (waits[i]) {
                        waits[i] = false;
                        spread(i, b);
                    }
                }
            }
            for (int i = first; i < stop; i++) {
                int met = heights[i];
                if (met != goodOf(i) || Integer.bitCount(met) > 1) {
                    return i;
                }
                code.height[i] = met == 0 ? -1 : Integer.numberOfTrailingZeros(met);
            }
            return NO_FAULT;
        }

        /** Of the heights that come to an instruction those from which it can be done. */
        private int goodOf(int i) {
            int takes = program.takes(i);
            int most = MOST_HEIGHT - program.leaves(i) + takes;
            int good = 0;
            for (int h = takes; h <= most && h <= MOST_HEIGHT; h++) {
                good |= heights[i] & 1 << h;
            }
            return good;
        }

        private void spread(int i, int b) {
            int good = goodOf(i);
            if (good == 0) {
                return;
            }
            int behind = good >> program.takes(i) << program.leaves(i);
            if (Code.goesOn(code.op[i])) {
                arrive(i + 1, behind);
            }
            if (Code.goesToLabel(code.op[i])) {
                arrive(code.a[i], behind);
            }
            for (int k = program.firstCatch[b]; k < program.stopCatch[b]; k++) {
                if (code.isCaught(i, k)) {
                    arrive(code.catchAt[k], 1 << 1);
                }
            }
        }

        private void arrive(int i, int met) {
            if (i >= 0 && i < code.count && (heights[i] | met) != heights[i]) {
                heights[i] |= met;
                waits[i] = true;
                someWait = true;
            }
        }
    }

    /** Checks the types of locals and stack, along the same edges, in a body whose heights are right. */
    private static final class TypeFlow {
        private Program program;
        private Classes classes;
        private Code code;
        /** For each instruction a row: its locals, and from MOST_LOCALS on its stack. */
        private final byte[] types = new byte[MOST_INSTRUCTIONS * ROW];
        private final boolean[] reached = new boolean[MOST_INSTRUCTIONS];
        private final boolean[] waits = new boolean[MOST_INSTRUCTIONS];
        private boolean someWait;
        /** What goes along an edge. */
        private final byte[] row = new byte[ROW];

        TypeFlow(Program program) {
            this.program = program;
            this.classes = program.classes;
            this.code = program.code;
        }

        void begin(Program checked) {
            program = checked;
            classes = checked.classes;
            code = checked.code;
        }

        int firstFault(int b) {
            int first = program.first[b];
            int stop = program.stop[b];
            for (int i = first; i < stop; i++) {
                reached[i] = false;
            }
            enter(b);
            for (int round = 0; round < MOST_ROUNDS && someWait; round++) {
                someWait = false;
                for (int i = first; i < stop; i++) {
                    if (waits[i]) {
                        waits[i] = false;
                        spread(i, b);
                    }
                }
            }
            for (int i = first; i < stop; i++) {
                if (reached[i] && !isRight(i)) {
                    return i;
                }
            }
            return NO_FAULT;
        }

        private void enter(int b) {
            for (int k = 0; k < MOST_LOCALS; k++) {
                row[k] = (byte) (k < program.arity[b] ? program.parameters[b * MOST_LOCALS + k] : UNSET);
            }
            arrive(program.first[b]);
        }

        private boolean isRight(int i) {
            int base = i * ROW;
            int low = base + MOST_LOCALS + code.height[i] - program.takes(i);
            if (!program.suits(i, types, base, low)) {
                return false;
            }
            return code.op[i] != ASTORE || classes.isElement(types[low + 2], types[low]);
        }

        private void spread(int i, int b) {
            System.arraycopy(types, i * ROW, row, 0, ROW);
            if (perform(i)) {
                if (Code.goesOn(code.op[i])) {
                    arrive(i + 1);
                }
                if (Code.goesToLabel(code.op[i])) {
                    arrive(code.a[i]);
                }
            }
            for (int k = program.firstCatch[b]; k < program.stopCatch[b]; k++) {
                if (code.isCaught(i, k)) {
                    System.arraycopy(types, i * ROW, row, 0, ROW);
                    row[MOST_LOCALS] = (byte) code.catchClass[k];
                    arrive(code.catchAt[k]);
                }
            }
        }

        /** Makes of the row before an instruction the row behind it; false if nothing goes on. */
        private boolean perform(int i) {
            int a = code.a[i];
            int top = MOST_LOCALS + code.height[i];
            int low = top - program.takes(i);
            switch (code.op[i]) {
                case LOAD:
                    row[top] = row[a];
                    return true;
                case STORE:
                    row[a] = row[low];
                    return true;
                case DUP:
                    row[top] = row[low];
                    return true;
                case SWAP:
                    swap(low, low + 1);
                    return true;
                case ALOAD:
                    row[low] = (byte) classes.elementOf(row[low]);
                    return row[low] != NONE;
                default:
                    if (program.leaves(i) == 1) {
                        row[low] = (byte) program.leftBy(i);
                    }
                    return true;
            }
        }

        private void swap(int low, int high) {
            byte type = row[low];
            row[low] = row[high];
            row[high] = type;
        }

        /** Joins the row to what came to an instruction before. */
        private void arrive(int i) {
            int base = i * ROW;
            int used = MOST_LOCALS + code.height[i];
            boolean changed = !reached[i];
            if (!reached[i]) {
                System.arraycopy(row, 0, types, base, used);
                reached[i] = true;
            }
            for (int k = 0; k < used; k++) {
                byte joined = (byte) classes.join(types[base + k], row[k]);
                changed |= joined != types[base + k];
                types[base + k] = joined;
            }
            if (changed) {
                waits[i] = true;
                someWait = true;
            }
        }
    }

    /** The objects and arrays of a run; object 0 is null. */
    private static final class Heap {
        private final int[] type = new int[MOST_OBJECTS + 1];
        private final int[] base = new int[MOST_OBJECTS + 1];
        private final int[] length = new int[MOST_OBJECTS + 1];
        private final int[] site = new int[MOST_OBJECTS + 1];
        private final int[] cells = new int[MOST_CELLS];
        private int objects;
        private int used;

        void begin() {
            objects = 0;
            used = 0;
            type[0] = NULL;
        }

        /** A new object with so many cells, each 0; null if there is no room for it. */
        int make(int ofType, int count, int atSite) {
            if (objects == MOST_OBJECTS || count < 0 || count > MOST_CELLS - used) {
                return 0;
            }
            objects++;
            type[objects] = ofType;
            base[objects] = used;
            length[objects] = count;
            site[objects] = atSite;
            Arrays.fill(cells, used, used + count, 0);
            used += count;
            return objects;
        }

        boolean hasCell(int object, int k) {
            return object > 0 && object <= objects && k >= 0 && k < length[object];
        }

        int cell(int object, int k) {
            return hasCell(object, k) ? cells[base[object] + k] : 0;
        }

        void setCell(int object, int k, int value) {
            if (hasCell(object, k)) {
                cells[base[object] + k] = value;
            }
        }
    }

    /** Runs a program, and keeps what is told of the latest run. */
    private static final class Runner {
        private static final int GOES_ON = -1;
        private static final int CAME_BACK = 0;
        private static final int THROWN_OUT = 1;
        private static final int OUT_OF_FUEL = 2;
        private static final int HEAP_FULL = 3;
        private static final int TOO_DEEP = 4;

        private Program program;
        private Code code;
        private final Heap heap = new Heap();
        /** For each body that runs a row of values (an object's number or an int), and of what type they are. */
        private final int[] values = new int[MOST_DEPTH * ROW];
        private final byte[] types = new byte[MOST_DEPTH * ROW];
        private final int[] next = new int[MOST_DEPTH];
        private final int[] height = new int[MOST_DEPTH];
        private int depth;
        private int outcome;
        /** The object that was just thrown and has no handler yet; null if there is none. */
        private int flying;
        private final int[] inputs = new int[MOST_INTS];
        private int inputCount;
        private int inputAt;
        private final int[] outs = new int[MOST_INTS];
        private int written;
        private int steps;
        private int place = -1;
        private int thrownSite = -1;
        private int strays;

        Runner(Program program) {
            this.program = program;
            this.code = program.code;
        }

        boolean addInput(int v) {
            if (inputCount == MOST_INTS) {
                return false;
            }
            inputs[inputCount] = v;
            inputCount++;
            return true;
        }

        int outcomeOf(Program running, int fuel) {
            program = running;
            code = running.code;
            heap.begin();
            inputAt = 0;
            written = 0;
            steps = 0;
            thrownSite = -1;
            outcome = GOES_ON;
            flying = 0;
            depth = 0;
            Arrays.fill(types, 0, MOST_LOCALS, (byte) UNSET);
            height[0] = 0;
            next[0] = program.first[program.main];
            for (int n = 0; n < fuel && outcome == GOES_ON; n++) {
                steps++;
                step();
                if (flying != 0) {
                    passUp();
                }
            }
            if (outcome == GOES_ON) {
                outcome = OUT_OF_FUEL;
                place = next[depth];
            }
            inputCount = 0;
            return outcome;
        }

        private void step() {
            int i = next[depth];
            place = i;
            if (isStray(i)) {
                // Nothing can be done with such values: the run stays here until its fuel is used up.
                strays++;
                return;
            }
            next[depth] = i + 1;
            int op = code.op[i];
            if (op <= SWAP) {
                move(op, code.a[i], code.b[i]);
            } else if (op <= NEG) {
                calculate(op);
            } else if (op <= OTHER) {
                decide(op, code.a[i]);
            } else if (op <= ASTORE) {
                useArray(i);
            } else if (op <= IS) {
                useObject(i);
            } else {
                transfer(i);
            }
        }

        private boolean isStray(int i) {
            if (height[depth] != code.height[i]) {
                return true;
            }
            int low = top() - program.takes(i);
            if (!program.suits(i, types, depth * ROW, low)) {
                return true;
            }
            if (code.op[i] != ASTORE) {
                return false;
            }
            // Which class an element has is looked at by astore itself; here only int or reference counts.
            int element = types[low + 2] < NULL ? NULL : types[low + 2];
            return !program.classes.isElement(element, types[low]);
        }

        /** The index behind the highest value of the stack of the body that runs. */
        private int top() {
            return depth * ROW + MOST_LOCALS + height[depth];
        }

        private void push(int value, int type) {
            if (height[depth] < MOST_HEIGHT) {
                int at = depth * ROW + MOST_LOCALS + height[depth];
                values[at] = value;
                types[at] = (byte) type;
                height[depth]++;
            }
        }

        private void pushInt(int value) {
            push(value, INT);
        }

        private void pushObject(int object) {
            push(object, heap.type[object]);
        }

        private int pop() {
            if (height[depth] == 0) {
                return 0;
            }
            height[depth]--;
            return values[top()];
        }

        private void move(int op, int a, int b) {
            int local = depth * ROW + a;
            int top = top();
            switch (op) {
                case PUSH:
                    pushInt(a);
                    break;
                case PUSH_NULL:
                    pushObject(0);
                    break;
                case LOAD:
                    push(values[local], types[local]);
                    break;
                case STORE:
                    values[local] = pop();
                    types[local] = types[top - 1];
                    break;
                case INC:
                    values[local] += b;
                    break;
                case DUP:
                    push(values[top - 1], types[top - 1]);
                    break;
                case POP:
                    pop();
                    break;
                default:
                    swap(top - 2, top - 1);
                    break;
            }
        }

        private void swap(int low, int high) {
            int value = values[low];
            byte type = types[low];
            values[low] = values[high];
            types[low] = types[high];
            values[high] = value;
            types[high] = type;
        }

        private void calculate(int op) {
            int b = pop();
            if (op == NEG) {
                pushInt(-b);
                return;
            }
            int a = pop();
            if ((op == DIV || op == REM) && b == 0) {
                raise(DIVIDE_ERROR);
                return;
            }
            switch (op) {
                case ADD: pushInt(a + b); break;
                case SUB: pushInt(a - b); break;
                case MUL: pushInt(a * b); break;
                case DIV: pushInt(a / b); break;
                case REM: pushInt(a % b); break;
                case AND: pushInt(a & b); break;
                case OR: pushInt(a | b); break;
                case XOR: pushInt(a ^ b); break;
                case SHL: pushInt(a << b); break;
                default: pushInt(a >> b); break;
            }
        }

        private void decide(int op, int label) {
            int b = op == GOTO ? 0 : pop();
            int a = op == GOTO || op == ISNULL || op == NOTNULL ? 0 : pop();
            boolean goes;
            switch (op) {
                case EQ: case SAME: goes = a == b; break;
                case NE: case OTHER: goes = a != b; break;
                case LT: goes = a < b; break;
                case LE: goes = a <= b; break;
                case GT: goes = a > b; break;
                case GE: goes = a >= b; break;
                case ISNULL: goes = b == 0; break;
                case NOTNULL: goes = b != 0; break;
                default: goes = true; break;
            }
            if (goes) {
                next[depth] = label;
            }
        }

        /** new, array, and the instructions that take an array. */
        private void useArray(int i) {
            int op = code.op[i];
            if (op == NEW) {
                pushMade(code.a[i], program.classes.slots[code.a[i]], code.site[i]);
                return;
            }
            int value = op == ASTORE ? pop() : 0;
            int index = op == LENGTH ? 0 : pop();
            int array = op == ARRAY ? 0 : pop();
            if (op == ARRAY && index < 0) {
                raise(SIZE_ERROR);
            } else if (op == ARRAY) {
                pushMade(code.a[i], index, code.site[i]);
            } else if (array == 0) {
                raise(NULL_ERROR);
            } else if (op == LENGTH) {
                pushInt(heap.length[array]);
            } else if (!heap.hasCell(array, index)) {
                raise(INDEX_ERROR);
            } else if (op == ALOAD) {
                pushCell(array, index, heap.type[array] == INT_ARRAY);
            } else if (mayHold(array, value)) {
                heap.setCell(array, index, value);
            } else {
                raise(STORE_ERROR);
            }
        }

        private boolean mayHold(int array, int value) {
            int element = program.classes.elementOf(heap.type[array]);
            return element == INT || program.classes.isBelow(heap.type[value], element);
        }

        private void pushMade(int type, int count, int site) {
            int object = heap.make(type, count, site);
            if (object == 0) {
                outcome = HEAP_FULL;
            } else {
                pushObject(object);
            }
        }

        private void pushCell(int object, int k, boolean isInt) {
            int value = heap.cell(object, k);
            if (isInt) {
                pushInt(value);
            } else {
                pushObject(value);
            }
        }

        /** get, put, cast and is. */
        private void useObject(int i) {
            int op = code.op[i];
            int a = code.a[i];
            Classes classes = program.classes;
            int value = op == PUT ? pop() : 0;
            int object = pop();
            boolean isOfType = object != 0 && classes.isBelow(heap.type[object], a);
            if (op == IS) {
                pushInt(isOfType ? 1 : 0);
            } else if (op == CAST && (isOfType || object == 0)) {
                pushObject(object);
            } else if (op == CAST) {
                raise(CAST_ERROR);
            } else if (object == 0) {
                raise(NULL_ERROR);
            } else if (op == PUT) {
                heap.setCell(object, classes.fieldSlot[a], value);
            } else {
                pushCell(object, classes.fieldSlot[a], classes.fieldType[a] == INT);
            }
        }

        /** The instructions that go to other bodies, or to the world outside. */
        private void transfer(int i) {
            int a = code.a[i];
            switch (code.op[i]) {
                case CALL:
                    enter(a, program.arity[a]);
                    break;
                case SEND:
                    send(a, values[top() - program.arity[a]]);
                    break;
                case THROW:
                    raiseObject(pop());
                    break;
                case READ:
                    pushInt(inputAt < inputCount ? inputs[inputAt] : 0);
                    inputAt++;
                    break;
                case WRITE:
                    write(pop());
                    break;
                default:
                    leave(code.op[i] == GIVE);
                    break;
            }
        }

        private void send(int root, int object) {
            if (object == 0) {
                raise(NULL_ERROR);
            } else {
                enter(program.bodyOf(heap.type[object], root), program.arity[root]);
            }
        }

        private void enter(int body, int count) {
            if (depth + 1 == MOST_DEPTH) {
                outcome = TOO_DEEP;
                return;
            }
            height[depth] -= count;
            int from = top();
            depth++;
            int base = depth * ROW;
            System.arraycopy(values, from, values, base, count);
            System.arraycopy(types, from, types, base, count);
            Arrays.fill(types, base + count, base + MOST_LOCALS, (byte) UNSET);
            height[depth] = 0;
            next[depth] = program.first[body];
        }

        private void leave(boolean gives) {
            if (depth == 0) {
                outcome = CAME_BACK;
                return;
            }
            int at = top() - 1;
            depth--;
            if (gives) {
                push(values[at], types[at]);
            }
        }

        private void write(int value) {
            if (written < MOST_INTS) {
                outs[written] = value;
            }
            written++;
        }

        private void raise(int errorClass) {
            flying = heap.make(errorClass, 0, MOST_SITES + errorClass - NULL_ERROR);
            if (flying == 0) {
                outcome = HEAP_FULL;
            }
        }

        private void raiseObject(int object) {
            if (object == 0) {
                raise(NULL_ERROR);
            } else {
                flying = object;
            }
        }

        /** Gives the flying object to the nearest body that has a handler for it; the bodies in between end. */
        private void passUp() {
            int object = flying;
            int i = place;
            flying = 0;
            for (int d = depth; d >= 0; d--) {
                int at = handlerOf(i, heap.type[object]);
                if (at != NOT_THERE) {
                    depth = d;
                    height[d] = 0;
                    next[d] = at;
                    pushObject(object);
                    return;
                }
                i = d > 0 ? next[d - 1] - 1 : i;
            }
            outcome = THROWN_OUT;
            thrownSite = heap.site[object];
        }

        private int handlerOf(int i, int type) {
            int b = code.body[i];
            for (int k = program.firstCatch[b]; k < program.stopCatch[b]; k++) {
                if (code.isCaught(i, k) && program.classes.isBelow(type, code.catchClass[k])) {
                    return code.catchAt[k];
                }
            }
            return NOT_THERE;
        }
    }
}
