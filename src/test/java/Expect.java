/** What the tests share: they say what is due, and what is wrong is printed and counted. */
final class Expect {
    private static final char MARK = '@';
    private static int wrong = 0;
    private static int asked = 0;
    private static int askedBefore = 0;
    private static String sentence = "";

    private Expect() {
    }

    /** Begins the test of one sentence of the document: these are its words, told with each wrong answer. */
    static void sentence(String words) {
        endSentence();
        sentence = words;
    }

    private static void endSentence() {
        if (!sentence.isEmpty() && asked == askedBefore) {
            wrong++;
            System.out.println("nothing was asked of: " + sentence);
        }
        askedBefore = asked;
    }

    static void same(String what, Object got, Object due) {
        asked++;
        if (!got.equals(due)) {
            wrong++;
            String where = sentence.isEmpty() ? "" : ", by: " + sentence;
            System.out.println(what + " answered " + got + ", due is " + due + where);
        }
    }

    /** Ends the test: with exit code 1 if an answer was wrong. */
    static void finish() {
        endSentence();
        System.out.println(asked + " answers, " + wrong + " of them wrong");
        if (wrong != 0 || asked == 0) {
            System.exit(1);
        }
    }

    /** Up to eight characters as one argument of type. */
    static long eight(String text) {
        long eight = 0;
        for (int k = 0; k < text.length(); k++) {
            eight = eight << 8 | text.charAt(k);
        }
        return eight;
    }

    static void write(StackAssembler x, String text) {
        x.wipe();
        for (int k = 0; k < text.length(); k += 8) {
            String part = text.substring(k, Math.min(k + 8, text.length()));
            if (!x.type(eight(part))) {
                throw new AssertionError("the test's own text is refused: " + text);
            }
        }
    }

    static StackAssembler typed(String text) {
        StackAssembler x = new StackAssembler();
        write(x, text);
        return x;
    }

    static StackAssembler assembled(String text) {
        StackAssembler x = typed(text);
        same("assemble of " + text, outcome(x).startsWith("fine"), true);
        return x;
    }

    static boolean printThrows(StackAssembler x) {
        try {
            x.print();
            return false;
        } catch (UnsupportedOperationException e) {
            return e.getClass() == UnsupportedOperationException.class;
        }
    }

    /** What assemble does, in words: its answer, or what is thrown with the place. */
    static String outcome(StackAssembler x) {
        try {
            return "fine " + x.assemble();
        } catch (RuntimeException e) {
            return kind(e.getClass()) + " " + x.place();
        }
    }

    /** These classes themselves are due, none that extends them. */
    private static String kind(Class<?> thrown) {
        if (thrown == IllegalArgumentException.class) {
            return "malformed";
        }
        if (thrown == UnsupportedOperationException.class) {
            return "too much";
        }
        return thrown == IllegalStateException.class ? "invalid" : thrown.getName();
    }

    static void fine(String text) {
        fine(text, text.split("\\(func").length - 1);
    }

    static void fine(String text, int functions) {
        same("assemble of " + text, outcome(typed(text)), "fine " + functions);
    }

    /** The mark stands in the text before the token that is at fault. */
    static void malformed(String marked) {
        marked(marked, "malformed ");
    }

    static void tooMuch(String marked) {
        marked(marked, "too much ");
    }

    private static void marked(String marked, String due) {
        int place = marked.indexOf(MARK);
        String text = marked.substring(0, place) + marked.substring(place + 1);
        same("assemble of " + text, outcome(typed(text)), due + place);
    }

    static void invalid(String text, int place) {
        same("assemble of " + text, outcome(typed(text)), "invalid " + place);
    }

    static String text(StackAssembler x) {
        StringBuilder all = new StringBuilder();
        char one = x.character(0);
        for (int k = 1; one != 0; k++) {
            all.append(one);
            one = x.character(k);
        }
        return all.toString();
    }

    static String bytes(StackAssembler x) {
        StringBuilder all = new StringBuilder();
        for (int k = 0; x.octet(k) != -1; k++) {
            all.append(String.format("%02X", x.octet(k)));
        }
        return all.toString();
    }

    /** All that can be asked of the module. */
    static String module(StackAssembler x) {
        StringBuilder all = new StringBuilder();
        for (int f = 0; f < x.functions(); f++) {
            all.append("func");
            for (int what = 0; x.function(f, what) != -1; what++) {
                all.append(' ').append(x.function(f, what));
            }
            for (int k = 0; x.instruction(f, k) != -1; k++) {
                all.append(' ').append(Integer.toHexString(x.instruction(f, k)));
                all.append(':').append(x.immediate(f, k));
            }
            all.append('\n');
        }
        return all.toString();
    }

    static String repeat(String part, int times) {
        return part.repeat(times);
    }
}
