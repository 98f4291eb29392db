/** The edges of promises 1 to 4: a new object, type, wipe, character. */
public final class EdgesOfTextTest {
    private static final int LIMIT = 320;

    public static void main(String[] args) {
        newObject();
        characters();
        order();
        zeros();
        refusedBytes();
        fullText();
        tooLongText();
        wipe();
        character();
        Expect.finish();
    }

    private static void newObject() {
        Expect.sentence("An empty text, no bytes, a module without functions, PLACE 0.");
        StackAssembler x = new StackAssembler();
        Expect.same("character(0)", (int) x.character(0), 0);
        Expect.same("octet(-1)", x.octet(-1), 0);
        Expect.same("octet(0)", x.octet(0), -1);
        Expect.same("functions()", x.functions(), 0);
        Expect.same("function(0, 0)", x.function(0, 0), -1);
        Expect.same("place()", x.place(), 0);
        Expect.same("assemble of an empty text", Expect.outcome(x), "malformed 0");
        Expect.same("encode() of a module without functions", new StackAssembler().encode(), 8);
        Expect.same("print() of a module without functions", new StackAssembler().print(), 8);
    }

    private static void characters() {
        Expect.sentence("THE TEXT has at most 320 characters: 10 (LF) and 32 .. 126.");
        for (int one = 1; one < 256; one++) {
            boolean good = one == 10 || one >= 32 && one <= 126;
            StackAssembler x = new StackAssembler();
            Expect.same("type(" + one + ")", x.type(one), good);
            Expect.same("text after type(" + one + ")", Expect.text(x), good ? "" + (char) one : "");
        }
    }

    private static void order() {
        Expect.sentence("Appends to the text the characters that are the bytes of eight, from the highest to the lowest");
        StackAssembler x = Expect.typed("ab");
        Expect.same("type", x.type(Expect.eight("12345678")), true);
        Expect.same("text", Expect.text(x), "ab12345678");
        Expect.same("type", x.type('\n'), true);
        Expect.same("text", Expect.text(x), "ab12345678\n");
    }

    private static void zeros() {
        Expect.sentence("zeros left out: true.");
        StackAssembler x = Expect.typed("a");
        Expect.same("type(0)", x.type(0L), true);
        Expect.same("text", Expect.text(x), "a");
        Expect.same("the highest byte alone", x.type(0x6200000000000000L), true);
        Expect.same("the lowest byte alone", x.type(0x63L), true);
        Expect.same("zeros between", x.type(0x6400000000000065L), true);
        Expect.same("text", Expect.text(x), "abcde");
    }

    private static void refusedBytes() {
        Expect.sentence("Refused (false) when a byte is neither 0, 10 nor 32 .. 126");
        int[] bad = {1, 9, 11, 13, 31, 127, 128, 138, 160, 255};
        for (int one : bad) {
            for (int shift = 0; shift < 64; shift += 8) {
                refused(0x6162636465666768L & ~(0xFFL << shift) | (long) one << shift);
                refused((long) one << shift);
            }
        }
        refused(-1L);
        refused(Long.MIN_VALUE);
    }

    private static void refused(long eight) {
        StackAssembler x = Expect.typed("ab");
        Expect.same("type(" + Long.toHexString(eight) + ")", x.type(eight), false);
        Expect.same("text", Expect.text(x), "ab");
        Expect.same("type behind a refused one", x.type('c'), true);
        Expect.same("text", Expect.text(x), "abc");
    }

    private static void fullText() {
        Expect.sentence("or there would be more than 320.");
        for (int more = 1; more <= 8; more++) {
            String part = "12345678".substring(0, more);
            StackAssembler x = Expect.typed("x".repeat(LIMIT - more));
            Expect.same(more + " characters up to 320", x.type(Expect.eight(part)), true);
            Expect.same("text", Expect.text(x), "x".repeat(LIMIT - more) + part);
            Expect.same("character(319)", x.character(LIMIT - 1), part.charAt(more - 1));
            Expect.same("character(320)", (int) x.character(LIMIT), 0);
            Expect.same("none more", x.type(0L), true);
            Expect.same("text", Expect.text(x).length(), LIMIT);
        }
    }

    private static void tooLongText() {
        Expect.sentence("or there would be more than 320.");
        for (int more = 1; more <= 8; more++) {
            StackAssembler x = Expect.typed("x".repeat(LIMIT + 1 - more));
            long eight = Expect.eight("12345678".substring(0, more));
            Expect.same(more + " characters up to 321", x.type(eight), false);
            Expect.same("text", Expect.text(x), "x".repeat(LIMIT + 1 - more));
            Expect.same(more + " characters up to 321, again", x.type(eight), false);
            Expect.same("as many as there is room for", x.type(eight >>> 8), true);
            Expect.same("length", Expect.text(x).length(), LIMIT);
        }
    }

    private static void wipe() {
        Expect.sentence("Empties the text.");
        StackAssembler x = new StackAssembler();
        x.wipe();
        Expect.same("an empty text, wiped", Expect.text(x), "");
        Expect.write(x, "x".repeat(LIMIT));
        x.wipe();
        for (int k = 0; k <= LIMIT; k++) {
            Expect.same("character(" + k + ") of a full text, wiped", (int) x.character(k), 0);
        }
        Expect.same("assemble", Expect.outcome(x), "malformed 0");
        Expect.same("type", x.type('a'), true);
        Expect.same("text", Expect.text(x), "a");
        Expect.same("character(1), of the old text", (int) x.character(1), 0);
    }

    private static void character() {
        Expect.sentence("Character k of the text; 0 when there is none.");
        StackAssembler x = Expect.typed("a\n ~");
        int[] due = {'a', '\n', ' ', '~'};
        for (int k = 0; k < due.length; k++) {
            Expect.same("character(" + k + ")", (int) x.character(k), due[k]);
        }
        int[] none = {4, 5, 319, 320, 321, -1, -2, Integer.MIN_VALUE, Integer.MAX_VALUE};
        for (int k : none) {
            Expect.same("character(" + k + ")", (int) x.character(k), 0);
        }
    }
}
