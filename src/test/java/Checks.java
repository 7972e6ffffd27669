/** Counts the answers that are not the ones that are due, and brings texts into machines. */
final class Checks {
    private int wrong;
    private int looked;

    void due(String what, long got, long want) {
        looked++;
        if (got != want) {
            wrong++;
            if (wrong <= 40) {
                String told = what.length() > 500 ? what.substring(0, 200) + " .. " + what.substring(what.length() - 300) : what;
                System.out.println(told + " answered " + got + ", due is " + want);
            }
        }
    }

    void due(String what, boolean got, boolean want) {
        due(what, got ? 1 : 0, want ? 1 : 0);
    }

    boolean hold() {
        return looked > 0 && wrong == 0;
    }

    int looked() {
        return looked;
    }

    /** Ends the program: 1 if an answer was wrong. */
    void finish(String name) {
        System.out.println(name + ": " + looked + " answers, " + wrong + " wrong");
        if (!hold()) {
            System.exit(1);
        }
    }

    /** Feeds a text to a machine and ends it. */
    static void give(ObjectMachine x, String text) {
        for (int i = 0; i < text.length(); i += 20) {
            int[] words = new int[5];
            for (int k = 0; k < 20; k++) {
                int c = i + k < text.length() ? text.charAt(i + k) & 255 : ' ';
                words[k / 4] = words[k / 4] << 8 | c;
            }
            x.feed(words[0], words[1], words[2], words[3], words[4]);
        }
        x.end(text.length());
    }

    static ObjectMachine loaded(String text) {
        ObjectMachine x = new ObjectMachine();
        give(x, text);
        x.load();
        return x;
    }

    /** The tokens of a text, told apart in another way than the program does it. */
    static int tokensOf(String text) {
        String plain = text.replaceAll(";[^\n]*", " ").replaceAll("([(){}:])", " $1 ").trim();
        return plain.isEmpty() ? 0 : plain.split("[\\x00-\\x20]+").length;
    }

    /** Loads a text, whose fault is due at the token behind the sign @; without that sign none is due. */
    void fault(int want, String marked) {
        int at = marked.indexOf('@');
        loads(marked.replace("@", ""), want, at < 0 ? -1 : tokensOf(marked.substring(0, at)));
    }

    void loads(String text, int fault, int at) {
        ObjectMachine x = new ObjectMachine();
        give(x, text);
        due("load of " + text, x.load(), fault);
        due("faultAt of " + text, x.faultAt(), at);
    }

    void right(String text) {
        fault(0, text);
    }

    /** A text so many times, with the number of each for the sign #. */
    static String times(int n, String text) {
        StringBuilder all = new StringBuilder();
        for (int k = 0; k < n; k++) {
            all.append(text.replace("#", "" + k));
        }
        return all.toString();
    }

    /** A program whose main has these locals and lines, with other members of Main and other classes. */
    static String main(int locals, String lines, String members, String classes) {
        return classes + " class Main of Object { static main ( ) none " + locals + " { " + lines + " } " + members + " }";
    }

    static String main(int locals, String lines) {
        return main(locals, lines, "", "");
    }

    /** Loads and runs a text with the most fuel: the outcome that is due, and then all ints that it puts out. */
    ObjectMachine ran(String text, int outcome, int... outs) {
        ObjectMachine x = loaded(text);
        due("faultAt of " + text, x.faultAt(), -1);
        due("run of " + text, x.run(20000), outcome);
        due("written of " + text, x.written(), outs.length);
        for (int k = 0; k < outs.length; k++) {
            due("out(" + k + ") of " + text, x.out(k), outs[k]);
        }
        due("strays of " + text, x.strays(), 0);
        return x;
    }
}
