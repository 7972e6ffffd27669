import java.util.ArrayList;
import java.util.Arrays;
import java.util.List;

/** The sentences of "Terms" 1 and 2: what a text is, and what the form of a program is. */
public final class TextSentencesTest {
    private static final String MAIN = Checks.main(0, "back");
    /** The token of the first line of a main without classes before it. */
    private static final int FIRST = 12;
    /** All characters of words: those from ! to ~ that are neither marks nor the beginning of a blank. */
    private static final List<Character> OF_WORDS = new ArrayList<>();
    static {
        for (char ch = 33; ch <= 126; ch++) {
            if ("(){}:;".indexOf(ch) < 0) {
                OF_WORDS.add(ch);
            }
        }
    }

    public static void main(String[] args) {
        Sentences sentences = new Sentences();
        all(sentences);
        sentences.run("TextSentencesTest", args);
    }

    static void all(Sentences s) {
        s.says("1 TEXT. The bytes that were fed become the TEXT by end().", TextSentencesTest::becomesTextByEnd);
        s.says("It may have the codes 9, 10, 13 and 32 .. 126 (else fault 1).", TextSentencesTest::codes);
        s.says("9, 10, 13 and 32 are BLANKS;", TextSentencesTest::blanks);
        s.says("; and all up to before the next 10 or the end is a blank too.", TextSentencesTest::remarks);
        s.says("TOKENS are ( ) { } : each by itself,", TextSentencesTest::marks);
        s.says("and WORDS, the longest rows of other characters;", TextSentencesTest::words);
        s.says("they are numbered from 0.", TextSentencesTest::numbersOfTokens);
        s.says("NAMES begin with a .. z,", TextSentencesTest::beginsOfNames);
        s.says("CLASS NAMES with A .. Z,", TextSentencesTest::beginsOfClassNames);
        s.says("then come letters, digits and _,", TextSentencesTest::restsOfNames);
        s.says("in all at most 24 characters.", TextSentencesTest::lengthsOfNames);
        s.says("NUMBERS: - or nothing, and one to ten digits,", TextSentencesTest::digits);
        s.says("from -2147483648 to 2147483647.", TextSentencesTest::leastAndMost);
        s.says("TYPES: int, a class name, int[], a class name and [] behind it in one word.", TextSentencesTest::types);
        s.says("RESULTS: a type, or none.", TextSentencesTest::results);
        s.says("REFERENCES: a class name, . and a name, in one word.", TextSentencesTest::references);
        s.says("2 PROGRAMS (fault 2 at the first token with which those so far are not the beginning of a program;",
            TextSentencesTest::firstWrongToken);
        s.says("at the end of the text the number of tokens).", TextSentencesTest::endOfText);
        s.says("A program is a row of classes (perhaps none):", TextSentencesTest::rowOfClasses);
        s.says("class NAME of SUPER { members } with class names.", TextSentencesTest::classes);
        s.says("Members: field NAME TYPE;", TextSentencesTest::fields);
        s.says("static NAME ( types ) RESULT LOCALS { lines };", c -> bodies(c, "static"));
        s.says("method NAME ( types ) RESULT LOCALS { lines };", c -> bodies(c, "method"));
        s.says("LOCALS is a number.", TextSentencesTest::numbersOfLocals);
        s.says("Lines: LABEL : with a name;", TextSentencesTest::labels);
        s.says("catch FROM TO AT CLASS with three names and a class name;", TextSentencesTest::catches);
        s.says("else an INSTRUCTION and its operands", TextSentencesTest::instructions);
        s.says("(a word with a : behind it is a label, whatever it is):", TextSentencesTest::anyLabel);
        s.says("push N null load K store K inc K N dup pop swap add sub mul div rem and or xor shl shr neg goto L eq L ne L "
            + "lt L le L gt L ge L isnull L notnull L same L other L new C array E length aload astore get F put F cast T is T "
            + "call F send F throw give back read write", TextSentencesTest::allInstructions);
        s.says("with N, K numbers,", TextSentencesTest::numberOperands);
        s.says("L names,", TextSentencesTest::labelOperands);
        s.says("C class names,", TextSentencesTest::classOperands);
        s.says("E int or a class name,", TextSentencesTest::elementOperands);
        s.says("T types but int,", TextSentencesTest::typeOperands);
        s.says("F references.", TextSentencesTest::referenceOperands);
    }

    private static void becomesTextByEnd(Checks c) {
        ObjectMachine x = new ObjectMachine();
        x.feed('}' << 24, 0, 0, 0, 0);
        c.due("load before end", x.load(), 3);
        c.due("faultAt before end", x.faultAt(), 0);
        c.due("end", x.end(1), true);
        c.due("load", x.load(), 2);
        c.due("faultAt", x.faultAt(), 0);
    }

    private static void codes(Checks c) {
        int tokens = Checks.tokensOf(MAIN);
        for (int code = 0; code < 256; code++) {
            boolean right = code == 9 || code == 10 || code == 13 || code >= 32 && code <= 126;
            // A remark may have the same codes as all else, and no others.
            c.loads(MAIN + " ;" + (char) code, right ? 0 : 1, right ? -1 : tokens);
            if (!right) {
                c.loads(MAIN + " " + (char) code, 1, tokens);
            }
        }
    }

    private static void blanks(Checks c) {
        for (String blank : new String[] {"\t", "\n", "\r", " ", "\r\n", " \t\n\r "}) {
            c.right(MAIN.replace(" ", blank));
            c.right(blank + MAIN.trim() + blank);
        }
        for (char ch : OF_WORDS) {
            c.loads("class" + ch + "Main of Object { static main ( ) none 0 { back } }", 2, 0);
        }
    }

    private static void remarks(Checks c) {
        c.right(MAIN + "; } ( :");
        c.right(MAIN + ";");
        c.right("; } \r } \t } ; }\n" + MAIN);
        c.right("class;of\nMain;\nof;;\nObject{static main()none 0{back}}");
        c.fault(2, "; }\n@} " + MAIN);
        c.fault(2, MAIN + "; }\n\n@}");
        c.fault(2, "@cl;\nass Main of Object { }");
        // The end ends it too: what is fed next is another text.
        ObjectMachine x = Checks.loaded(MAIN + ";");
        Checks.give(x, "} " + MAIN);
        c.due("load", x.load(), 2);
        c.due("faultAt", x.faultAt(), 0);
    }

    private static void marks(Checks c) {
        c.right("class Main of Object{static main()none 0{a:b:back}}");
        for (String mark : "( ) { } :".split(" ")) {
            c.loads("class" + mark + "Main", 2, 1);
            c.loads("class Main of Object" + (mark.equals("{") ? "" : mark), 2, 4);
        }
        c.loads("class Main of Object{}}", 2, 6);
        c.loads("class Main of Object{{", 2, 5);
        c.loads("class Main of Object{static main((", 2, 8);
        c.loads("class Main of Object{static main())", 2, 9);
        c.loads("class Main of Object{static main()none 0{a::", 2, 14);
    }

    private static void words(Checks c) {
        c.loads("classMain of Object { }", 2, 0);
        c.fault(2, Checks.main(0, "push @1back"));
        c.fault(2, Checks.main(0, "push @1-1 back"));
        c.fault(2, Checks.main(0, "@back. back"));
        // Each character of a word goes on with it: the token behind it is the second one.
        for (char ch : OF_WORDS) {
            c.loads("class A" + ch + "A(", 2, Character.isLetterOrDigit(ch) || ch == '_' ? 2 : 1);
            c.loads("class A" + ch + ch + "\u0000", 1, 2);
        }
    }

    private static void numbersOfTokens(Checks c) {
        c.loads("}", 2, 0);
        c.loads("class }", 2, 1);
        c.loads("class A }", 2, 2);
        c.loads("class A of }", 2, 3);
    }

    private static void beginsOfNames(Checks c) {
        for (char ch : OF_WORDS) {
            boolean right = ch >= 'a' && ch <= 'z';
            c.loads(Checks.main(0, ch + "x : back"), right ? 0 : 2, right ? -1 : FIRST);
            c.loads(Checks.main(0, ch + " : back"), right ? 0 : 2, right ? -1 : FIRST);
        }
    }

    private static void beginsOfClassNames(Checks c) {
        for (char ch : OF_WORDS) {
            boolean right = ch >= 'A' && ch <= 'Z';
            c.loads("class " + ch + "x of Object { } " + MAIN, right ? 0 : 2, right ? -1 : 1);
            c.loads("class " + ch + " of Object { } " + MAIN, right ? 0 : 2, right ? -1 : 1);
        }
    }

    private static void restsOfNames(Checks c) {
        for (char ch : OF_WORDS) {
            boolean right = ch >= 'a' && ch <= 'z' || ch >= 'A' && ch <= 'Z' || ch >= '0' && ch <= '9' || ch == '_';
            for (String name : new String[] {"x" + ch, "x" + ch + "x"}) {
                c.loads(Checks.main(0, name + " : back"), right ? 0 : 2, right ? -1 : FIRST);
            }
            c.loads("class X" + ch + " of Object { } " + MAIN, right ? 0 : 2, right ? -1 : 1);
        }
    }

    private static void lengthsOfNames(Checks c) {
        for (int n = 1; n <= 60; n++) {
            String name = "abcdefghijklmnopqrstuvwxyz0123456789_ABCDEFGHIJKLMNOPQRSTUVWXYZ".substring(0, n);
            c.loads(Checks.main(0, name + " : back"), n <= 24 ? 0 : 2, n <= 24 ? -1 : FIRST);
            String className = "A" + name.substring(1);
            c.loads("class " + className + " of Object { } " + MAIN, n <= 24 ? 0 : 2, n <= 24 ? -1 : 1);
            c.loads("class A of Object { field " + name + " int } " + MAIN, n <= 24 ? 0 : 2, n <= 24 ? -1 : 6);
        }
        String name = "abcdefghijklmnopqrstuvwx";
        String classes = "class Abcdefghijklmnopqrstuvwx of Object { field " + name + " Abcdefghijklmnopqrstuvwx[] } ";
        c.right(Checks.main(0, "null get Abcdefghijklmnopqrstuvwx." + name + " pop back", "", classes));
        c.fault(2, Checks.main(0, "get @Abcdefghijklmnopqrstuvwx." + name + "y back", "", classes));
        c.fault(2, Checks.main(0, "get @Abcdefghijklmnopqrstuvwxy." + name + " back", "", classes));
        c.fault(2, Checks.main(0, "null cast @Abcdefghijklmnopqrstuvwxy[] back", "", classes));
        // The first 24 characters do not make a name of a longer word, and names may differ in the last one.
        c.right(Checks.main(0, name + " : " + name.replace('x', 'y') + " : back"));
    }

    private static void number(Checks c, String word, boolean right) {
        c.loads(Checks.main(0, "push " + word + " write back"), right ? 0 : 2, right ? -1 : FIRST + 1);
    }

    private static void digits(Checks c) {
        for (int n = 1; n <= 14; n++) {
            number(c, "00000000000000".substring(0, n), n <= 10);
            number(c, "-00000000000000".substring(0, n + 1), n <= 10);
        }
        for (String word : "5 -5 0000000005 -0000000005 1234567890 -1234567890 -0".split(" ")) {
            number(c, word, true);
            c.ran(Checks.main(0, "push " + word + " write back"), 0, Integer.parseInt(word));
        }
        for (String word : "- -- --1 +1 -+1 1- 1-1 1a a1 0x1 1.0 1_0 1/ /1 ,1".split(" ")) {
            number(c, word, false);
        }
    }

    private static void leastAndMost(Checks c) {
        for (String word : "2147483647 -2147483648 2147483646 -2147483647".split(" ")) {
            number(c, word, true);
            c.ran(Checks.main(0, "push " + word + " write back"), 0, Integer.parseInt(word));
        }
        for (String word : "2147483648 -2147483649 4294967295 4294967296 -4294967296 9999999999 -9999999999".split(" ")) {
            number(c, word, false);
        }
    }

    private static final String NO_TYPES = "int[ int] int[]] int[][] []int [] ints in Main[ Main[]] Main[][] []Main Main.[] x 5 main[] ints[] none none[]";

    private static void types(Checks c) {
        for (String type : "int Main int[] Main[] Object Error[]".split(" ")) {
            c.right(Checks.main(0, "back", "field a " + type, ""));
            c.right(Checks.main(0, "back", "static s ( int " + type + " ) none 2 { back }", ""));
        }
        for (String word : NO_TYPES.split(" ")) {
            c.fault(2, Checks.main(0, "back", "field a @" + word, ""));
            c.fault(2, Checks.main(0, "back", "static s ( int @" + word + " ) none 2 { back }", ""));
        }
        c.fault(2, Checks.main(0, "back", "field a int @[]", ""));
        c.fault(2, Checks.main(0, "back", "field a Main @[]", ""));
    }

    private static void results(Checks c) {
        c.right(Checks.main(0, "back", "static s ( ) none 0 { back }", ""));
        c.right(Checks.main(0, "back", "static s ( ) int 0 { push 0 give }", ""));
        for (String type : "Main int[] Main[]".split(" ")) {
            c.right(Checks.main(0, "back", "static s ( ) " + type + " 0 { null give }", ""));
        }
        for (String word : (NO_TYPES + " nothing non nones").split(" ")) {
            if (!word.equals("none")) {
                c.fault(2, Checks.main(0, "back", "static s ( ) @" + word + " 0 { back }", ""));
            }
        }
    }

    private static void references(Checks c) {
        c.right(Checks.main(0, "call Main.s back", "static s ( ) none 0 { back }", ""));
        for (String word : "Main Main. .s s main.s Main.S Main.Main Main..s Main.s.s Main.s. .Main.s Main.s[] Main[].s Main.9 Main,s".split(" ")) {
            c.fault(2, Checks.main(0, "call @" + word + " back", "static s ( ) none 0 { back }", ""));
        }
        c.fault(2, Checks.main(0, "call @Main .s back"));
        c.fault(2, Checks.main(0, "call @Main. s back"));
    }

    /** A right text with each kind of member and line. */
    private static final String FORM = "class A of Object { field f A[] static s ( int A ) int 2 { load 0 give } "
        + "method m ( ) none 1 { x : null isnull y inc : y : back z : throw catch x y z Error } } "
        + "class Main of A { static main ( ) none 2 { push 1 store 0 inc 0 -1 load 0 array int cast int[] pop new A get A.f pop "
        + "push 1 array A pop null send A.m push 1 null call A.s write goto end end : back } }";

    private static void firstWrongToken(Checks c) {
        c.right(FORM);
        String[] tokens = FORM.split(" ");
        for (int k = 0; k < tokens.length; k++) {
            String[] spoiled = tokens.clone();
            spoiled[k] = "?";
            c.loads(String.join(" ", spoiled), 2, k);
        }
        // A word may still become a label, so that the fault lies behind it.
        c.fault(2, Checks.main(0, "jump @jump : back"));
        c.fault(2, Checks.main(0, "jump @}"));
        // Only the first is told.
        c.fault(2, "class A of @a { field A int } }");
    }

    private static void endOfText(Checks c) {
        String[] tokens = FORM.split(" ");
        int level = 0;
        for (int k = 0; k < tokens.length; k++) {
            String text = String.join(" ", Arrays.copyOf(tokens, k));
            boolean whole = level == 0 && (k == 0 || tokens[k - 1].equals("}"));
            // A row of whole classes without Main has another fault, at the same place.
            c.loads(text, whole ? 3 : 2, k);
            level += tokens[k].equals("{") ? 1 : tokens[k].equals("}") ? -1 : 0;
        }
    }

    private static void rowOfClasses(Checks c) {
        // No class at all has the form of a program: what it lacks is Main.
        c.loads("", 3, 0);
        c.loads(" \t ; nothing", 3, 0);
        c.right(MAIN);
        c.right("class A of Object { } " + MAIN + " class B of A { }");
        c.fault(2, MAIN + " @field a int");
        c.fault(2, MAIN + " @back");
        c.fault(2, MAIN + " @A of Object { }");
        c.fault(2, "@{ " + MAIN + " }");
    }

    private static void classes(Checks c) {
        c.right("class A of Object { } " + MAIN);
        for (String word : "a 1 A[] { A.b class".split(" ")) {
            c.fault(2, "class @" + word + " of Object { } " + MAIN);
            c.fault(2, "class A of @" + word + " { } " + MAIN);
        }
        c.fault(2, "@Class A of Object { } " + MAIN);
        c.fault(2, "class A @off Object { } " + MAIN);
        c.fault(2, "class A of Object @( ) " + MAIN);
        c.fault(2, "class A of Object { @class B of Object { } } " + MAIN);
        c.fault(2, "class A of Object { @push 1 } " + MAIN);
    }

    private static void fields(Checks c) {
        c.right(Checks.main(0, "back", "field field int field int Main field static int[] field a Main[]", ""));
        for (String word : "A 1 a.b ( }".split(" ")) {
            c.fault(2, Checks.main(0, "back", "field @" + word + " int", ""));
        }
        c.fault(2, Checks.main(0, "back", "field a @}", ""));
        c.fault(2, Checks.main(0, "back", "field a @none", ""));
        c.fault(2, Checks.main(0, "back", "field a @b", ""));
        c.fault(2, Checks.main(0, "back", "field a int @int", ""));
        c.fault(2, Checks.main(0, "back", "@fields a int", ""));
        c.fault(2, Checks.main(0, "back", "@Field a int", ""));
    }

    private static void bodies(Checks c, String kind) {
        c.right(Checks.main(0, "back", kind + " s ( ) none 12 { back }", ""));
        c.right(Checks.main(0, "back", kind + " s ( int Main int[] Main[] ) none 12 { back }", ""));
        for (String word : "A 1 a.b ( }".split(" ")) {
            c.fault(2, Checks.main(0, "back", kind + " @" + word + " ( ) none 12 { back }", ""));
        }
        c.fault(2, Checks.main(0, "back", kind + " s @) none 12 { back }", ""));
        c.fault(2, Checks.main(0, "back", kind + " s @none 12 { back }", ""));
        c.fault(2, Checks.main(0, "back", kind + " s ( @( ) none 12 { back }", ""));
        c.fault(2, Checks.main(0, "back", kind + " s ( int @12 { back }", ""));
        c.fault(2, Checks.main(0, "back", kind + " s ( ) @12 { back }", ""));
        c.fault(2, Checks.main(0, "back", kind + " s ( ) @) none 12 { back }", ""));
        c.fault(2, Checks.main(0, "back", kind + " s ( ) none @{ back }", ""));
        c.fault(2, Checks.main(0, "back", kind + " s ( ) none 12 @12 { back }", ""));
        c.fault(2, Checks.main(0, "back", kind + " s ( ) none 12 @back }", ""));
        c.fault(2, Checks.main(0, "back", kind + " s ( ) none 12 { back @{ }", ""));
        c.fault(2, Checks.main(0, "back", "@" + kind + "s s ( ) none 12 { back }", ""));
    }

    private static void numbersOfLocals(Checks c) {
        for (String number : "0 -0 00 12 0000000012".split(" ")) {
            c.right(Checks.main(0, "back", "static s ( ) none " + number + " { back }", ""));
        }
        for (String word : "- x X none int 00000000000 2147483648 1.0".split(" ")) {
            c.fault(2, Checks.main(0, "back", "static s ( ) none @" + word + " { back }", ""));
        }
        // Any number has the right form; which ones it may be is a question of names.
        for (String number : "13 -1 2147483647 -2147483648".split(" ")) {
            c.fault(3, Checks.main(0, "back", "static s ( ) none @" + number + " { back }", ""));
        }
    }

    private static void labels(Checks c) {
        c.right(Checks.main(0, "a : b: c:d :back"));
        for (String word : "A 1 -1 _a a.b a[] A.b int[] ?".split(" ")) {
            c.fault(2, Checks.main(0, "@" + word + " : back"));
        }
        c.fault(2, Checks.main(0, "@: back"));
        c.fault(2, Checks.main(0, "a : @: back"));
        c.fault(2, Checks.main(0, "a @b : back"));
        c.fault(2, Checks.main(0, "@( : back"));
    }

    private static void catches(Checks c) {
        String lines = "a : push 1 write b : back c : pop back ";
        c.right(Checks.main(0, lines + "catch a b c Error"));
        for (String word : "A 1 a.b : }".split(" ")) {
            c.fault(2, Checks.main(0, lines + "catch a @" + word + " c Error"));
            c.fault(2, Checks.main(0, lines + "catch a b @" + word + " Error"));
        }
        for (String word : "A 1 a.b }".split(" ")) {
            c.fault(2, Checks.main(0, lines + "catch @" + word + " b c Error"));
        }
        for (String word : "a 1 int Error[] Error.a : }".split(" ")) {
            c.fault(2, Checks.main(0, lines + "catch a b c @" + word));
        }
        c.fault(2, Checks.main(0, lines + "catch a b c Error @Error"));
    }

    private static void instructions(Checks c) {
        c.right(Checks.main(0, "push 1 write back"));
        c.fault(2, Checks.main(0, "jump @back"));
        c.fault(2, Checks.main(0, "pushs @1 back"));
        c.fault(2, Checks.main(0, "pus @1 back"));
        c.fault(2, Checks.main(0, "@Push 1 back"));
        c.fault(2, Checks.main(0, "push @push 1 back"));
        c.fault(2, Checks.main(0, "push 1 @1 back"));
        c.fault(2, Checks.main(0, "back @1"));
        c.fault(2, Checks.main(0, "back @Main"));
        c.fault(2, Checks.main(0, "back @("));
        c.fault(2, Checks.main(0, "pushnull @back"));
    }

    private static final String ALL = "push 1,null,load 0,store 0,inc 0 1,dup,pop,swap,add,sub,mul,div,rem,and,or,xor,shl,shr,neg,"
        + "goto l,eq l,ne l,lt l,le l,gt l,ge l,isnull l,notnull l,same l,other l,new Main,array int,length,aload,astore,"
        + "get Main.f,put Main.f,cast Main,is int[],call Main.s,send Main.m,throw,give,back,read,write";
    private static final String MEMBERS = "field f int static s ( ) none 0 { back } method m ( ) none 1 { back }";

    private static void anyLabel(Checks c) {
        for (String instruction : (ALL + ",catch,class,of,field,static,method,none,int,label").split(",")) {
            String word = instruction.split(" ")[0];
            c.right(Checks.main(0, word + " : goto " + word));
            c.right(Checks.main(0, "push 1 pop " + word + " : back"));
            // It is no instruction then, whose operands would be looked for behind the colon.
            c.fault(2, Checks.main(0, word + " : @1 back"));
        }
        // The colon of a word that is an operand already has no place.
        c.fault(2, Checks.main(0, "goto a @: back"));
        c.fault(2, Checks.main(0, "push 1 @: back"));
        c.fault(2, Checks.main(0, "catch a b c Error @: back"));
    }

    private static void allInstructions(Checks c) {
        // Behind a back, where only form and names count.
        String text = Checks.main(1, "back " + ALL.replace(",", " ") + " l : back", MEMBERS, "");
        c.right(text);
        c.due("instructions", Checks.loaded(text).size(0), 46 + 2 + 2);
        c.due("instructions of the document", ALL.split(",").length, 46);
        for (String instruction : ALL.split(",")) {
            String[] parts = instruction.split(" ");
            c.right(Checks.main(1, "back " + instruction + " back l : back", MEMBERS, ""));
            c.fault(2, Checks.main(1, "back " + instruction + " @? back l : back", MEMBERS, ""));
            for (int k = 1; k < parts.length; k++) {
                String fewer = String.join(" ", Arrays.copyOf(parts, k));
                c.fault(2, Checks.main(1, "back " + fewer + " @} l : back", MEMBERS, ""));
            }
        }
    }

    private static void operands(Checks c, String ops, String right, String wrong) {
        for (String op : ops.split(" ")) {
            String behind = op.equals("inc") ? " 1" : "";
            for (String word : right.split(" ")) {
                c.right(Checks.main(1, "back " + op + " " + word + behind + " l : back", MEMBERS, ""));
            }
            for (String word : wrong.split(" ")) {
                c.fault(2, Checks.main(1, "back " + op + " @" + word + behind + " l : back", MEMBERS, ""));
            }
        }
    }

    private static void numberOperands(Checks c) {
        operands(c, "push load store inc", "0 -0 0000000000", "l Main int Main.f ( - 00000000000 2147483648");
        operands(c, "push", "2147483647 -2147483648", "-2147483649");
        c.right(Checks.main(1, "back inc 0 -2147483648 inc 0 2147483647 back"));
        for (String word : "l Main - 2147483648 -2147483649 }".split(" ")) {
            c.fault(2, Checks.main(1, "back inc 0 @" + word + " back"));
        }
    }

    private static void labelOperands(Checks c) {
        operands(c, "goto eq ne lt le gt ge isnull notnull same other", "l", "0 Main int[] Main.f _l (");
    }

    private static void classOperands(Checks c) {
        operands(c, "new", "Main Object Error StoreError", "int int[] Main[] main 0 Main.f");
    }

    private static void elementOperands(Checks c) {
        operands(c, "array", "int Main Object", "int[] Main[] ints none main 0 Main.f");
    }

    private static void typeOperands(Checks c) {
        operands(c, "cast is", "Main int[] Main[] Object Object[]", "int none main 0 Main.f int[][] []");
    }

    private static void referenceOperands(Checks c) {
        operands(c, "get put", "Main.f", "Main f .f Main. main.f Main.F 0 int.f");
        operands(c, "call", "Main.s", "Main s .s Main. main.s Main.S 0 int.s");
        operands(c, "send", "Main.m", "Main m .m Main. main.m Main.M 0 int.m");
    }
}
