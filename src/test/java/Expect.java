/** What the tests share: they say what is due, and what is wrong is printed and counted. */
final class Expect {
    private static final char MARK = '@';
    private static int wrong = 0;
    private static int asked = 0;

    private Expect() {
    }

    static void same(String what, Object got, Object due) {
        asked++;
        if (!got.equals(due)) {
            wrong++;
            System.out.println(what + " answered " + got + ", due is " + due);
        }
    }

    /** Ends the test: with exit code 1 if an answer was wrong. */
    static void finish() {
        System.out.println(asked + " answers, " + wrong + " of them wrong");
        if (wrong != 0 || asked == 0) {
            System.exit(1);
        }
    }

    /** Up to eight characters as one argument of type. */
    static long eight(String text) {
        long eight = 0;
        for (int k = 0; k < text.length(); k++) {
            eight = eight << 8 | text.charAt(k);
        }
        return eight;
    }

    static void write(StackAssembler x, String text) {
        x.wipe();
        for (int k = 0; k < text.length(); k += 8) {
            String part = text.substring(k, Math.min(k + 8, text.length()));
            if (!x.type(eight(part))) {
                throw new AssertionError("the test's own text is refused: " + text);
            }
        }
    }

    static StackAssembler typed(String text) {
        StackAssembler x = new StackAssembler();
        write(x, text);
        return x;
    }

    static StackAssembler assembled(String text) {
        StackAssembler x = typed(text);
        same("assemble of " + text, outcome(x).startsWith("fine"), true);
        return x;
    }

    /** What assemble does, in words: its answer, or what is thrown with the place. */
    static String outcome(StackAssembler x) {
        try {
            return "fine " + x.assemble();
        } catch (IllegalArgumentException e) {
            return "malformed " + x.place();
        } catch (UnsupportedOperationException e) {
            return "too much " + x.place();
        } catch (IllegalStateException e) {
            return "invalid " + x.place();
        }
    }

    static void fine(String text) {
        StackAssembler x = typed(text);
        int functions = text.split("\\(func").length - 1;
        same("assemble of " + text, outcome(x), "fine " + functions);
    }

    /** The mark stands in the text before the token that is at fault. */
    static void malformed(String marked) {
        marked(marked, "malformed ");
    }

    static void tooMuch(String marked) {
        marked(marked, "too much ");
    }

    private static void marked(String marked, String due) {
        int place = marked.indexOf(MARK);
        String text = marked.substring(0, place) + marked.substring(place + 1);
        same("assemble of " + text, outcome(typed(text)), due + place);
    }

    static void invalid(String text, int place) {
        same("assemble of " + text, outcome(typed(text)), "invalid " + place);
    }

    static String text(StackAssembler x) {
        StringBuilder all = new StringBuilder();
        for (int k = 0; x.character(k) != 0; k++) {
            all.append(x.character(k));
        }
        return all.toString();
    }

    static String bytes(StackAssembler x) {
        StringBuilder all = new StringBuilder();
        for (int k = 0; x.octet(k) != -1; k++) {
            all.append(String.format("%02X", x.octet(k)));
        }
        return all.toString();
    }

    /** All that can be asked of the module. */
    static String module(StackAssembler x) {
        StringBuilder all = new StringBuilder();
        for (int f = 0; f < x.functions(); f++) {
            all.append("func");
            for (int what = 0; x.function(f, what) != -1; what++) {
                all.append(' ').append(x.function(f, what));
            }
            for (int k = 0; x.instruction(f, k) != -1; k++) {
                all.append(' ').append(Integer.toHexString(x.instruction(f, k)));
                all.append(':').append(x.immediate(f, k));
            }
            all.append('\n');
        }
        return all.toString();
    }

    static String repeat(String part, int times) {
        return part.repeat(times);
    }
}
