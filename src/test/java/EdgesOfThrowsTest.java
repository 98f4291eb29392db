/** The edges of promises 5 and 9: what assemble changes when it throws, and when it does not. */
public final class EdgesOfThrowsTest {
    private static final String GOOD = "(module(func(param i32)(result i32)(local i64)local.get 0)(func $f i64.const 7 drop))";
    private static final String PRINTED = "(module(func(param i32)(result i32)(local i64) local.get 0)(func i64.const 7 drop))";

    /** Texts that are refused at each step of reading and checking, and how. */
    private static final String[][] REFUSED = {
        {"", "malformed 0"},
        {"(", "malformed 1"},
        {"(module(func(param i64 i64)nop nop) x", "malformed 36"},
        {"(module(func)(func)(func)) (;", "malformed 27"},
        {"(module(func(result i64)(local i32)i64.const 4294967295 call $f))", "malformed 61"},
        {"(module(func $g)(func)(func $g))", "malformed 28"},
        {"(module(func)(func)(func)(func)(func))", "too much 32"},
        {"(module(func(param i64 i64 i64 i64 i64 i64 i64)))", "too much 43"},
        {"(module(func(nop(nop(nop(nop(nop(nop(nop(nop(nop(nop(nop", "too much 52"},
        {"(module(func)(func)(func)(func nop nop drop))", "invalid 194"},
        {"(module(func(result i64)(local i32 i32)i64.const 1 i64.const 2))", "invalid 2"},
        {"(module(func i32.add))", "invalid 0"},
    };

    public static void main(String[] args) {
        throwingChangesPlaceAlone();
        throwingOnNewObject();
        throwingAgain();
        answers();
        stays();
        placeOfLatest();
        placeOfNone();
        refusedTypeChangesNothing();
        kinds();
        manyCalls();
        Expect.finish();
    }

    private static void throwingChangesPlaceAlone() {
        Expect.sentence("A call that throws changes nothing but PLACE (print() not that).");
        for (String[] one : REFUSED) {
            StackAssembler x = Expect.assembled(GOOD);
            x.encode();
            String bytes = Expect.bytes(x);
            String module = Expect.module(x);
            Expect.write(x, one[0]);
            Expect.same("assemble of " + one[0], Expect.outcome(x), one[1]);
            Expect.same("text", Expect.text(x), one[0]);
            Expect.same("functions()", x.functions(), 2);
            Expect.same("module", Expect.module(x), module);
            Expect.same("bytes", Expect.bytes(x), bytes);
            x.encode();
            Expect.same("bytes, encoded again", Expect.bytes(x), bytes);
            Expect.same("print()", x.print(), PRINTED.length());
            Expect.same("what is printed", Expect.text(x), PRINTED);
        }
    }

    private static void throwingOnNewObject() {
        Expect.sentence("A call that throws changes nothing but PLACE (print() not that).");
        for (String[] one : REFUSED) {
            StackAssembler x = Expect.typed(one[0]);
            Expect.same("assemble of " + one[0], Expect.outcome(x), one[1]);
            Expect.same("text", Expect.text(x), one[0]);
            Expect.same("functions()", x.functions(), 0);
            Expect.same("function(0, 0)", x.function(0, 0), -1);
            Expect.same("instruction(0, 0)", x.instruction(0, 0), -1);
            Expect.same("octet(-1)", x.octet(-1), 0);
            Expect.same("encode()", x.encode(), 8);
        }
    }

    /** What an earlier text left in the rows that are used again must not be seen. */
    private static void throwingAgain() {
        Expect.sentence("A call that throws changes nothing but PLACE (print() not that).");
        for (String[] one : REFUSED) {
            for (String[] other : REFUSED) {
                StackAssembler x = Expect.typed(one[0]);
                Expect.same("assemble of " + one[0], Expect.outcome(x), one[1]);
                Expect.same("the same again", Expect.outcome(x), one[1]);
                Expect.write(x, other[0]);
                Expect.same("assemble of " + other[0] + " behind " + one[0], Expect.outcome(x), other[1]);
                Expect.write(x, GOOD);
                Expect.same("assemble of a good text behind it", Expect.outcome(x), "fine 2");
                Expect.same("place()", "" + x.place(), other[1].substring(other[1].lastIndexOf(' ') + 1));
            }
        }
    }

    private static void answers() {
        Expect.sentence("Reads and checks the text: it is the module then; answers how many functions that has");
        for (int many = 0; many <= 4; many++) {
            StackAssembler x = Expect.typed("(module" + "(func nop)".repeat(many) + ")");
            Expect.same("assemble()", Expect.outcome(x), "fine " + many);
            Expect.same("functions()", x.functions(), many);
            Expect.same("assemble() again", Expect.outcome(x), "fine " + many);
        }
        StackAssembler x = new StackAssembler();
        Expect.same("assemble() of an empty text", Expect.outcome(x), "malformed 0");
    }

    private static void stays() {
        Expect.sentence("(the text, the bytes and PLACE stay).");
        StackAssembler x = Expect.typed("(module(func)(func drop))");
        Expect.same("assemble", Expect.outcome(x), "invalid 64");
        x.encode();
        Expect.write(x, GOOD);
        Expect.same("assemble", Expect.outcome(x), "fine 2");
        Expect.same("text", Expect.text(x), GOOD);
        Expect.same("bytes", Expect.bytes(x), "0061736D01000000");
        Expect.same("place()", x.place(), 64);
        x.wipe();
        Expect.same("assemble of an empty text", Expect.outcome(x), "malformed 0");
        Expect.same("place()", x.place(), 0);
    }

    private static void placeOfLatest() {
        Expect.sentence("PLACE: what the latest assemble that threw has said.");
        StackAssembler x = new StackAssembler();
        Expect.same("place() of a new object", x.place(), 0);
        for (String[] one : REFUSED) {
            Expect.write(x, one[0]);
            Expect.outcome(x);
            String due = one[1].substring(one[1].lastIndexOf(' ') + 1);
            Expect.same("place() behind " + one[0], "" + x.place(), due);
            x.wipe();
            x.type('x');
            x.type(1L);
            x.encode();
            x.print();
            Expect.same("place() behind other calls", "" + x.place(), due);
        }
    }

    private static void placeOfNone() {
        Expect.sentence("PLACE: what the latest assemble that threw has said.");
        StackAssembler x = Expect.assembled(GOOD);
        Expect.same("place() when none threw", x.place(), 0);
        x.print();
        Expect.same("place() when none threw", x.place(), 0);
        x = Expect.typed(" ".repeat(320));
        Expect.outcome(x);
        Expect.same("the greatest place in a text", x.place(), 320);
    }

    private static void refusedTypeChangesNothing() {
        Expect.sentence("Refused (false) when a byte is neither 0, 10 nor 32 .. 126, or there would be more than 320.");
        StackAssembler x = Expect.assembled("(module(func nop))");
        x.encode();
        String bytes = Expect.bytes(x);
        String module = Expect.module(x);
        Expect.same("a byte 127", x.type(0x617FL), false);
        Expect.same("text", Expect.text(x), "(module(func nop))");
        Expect.write(x, "(module(func drop))" + " ".repeat(295));
        Expect.same("seven more than 314", x.type(Expect.eight("abcdefg")), false);
        Expect.same("character(313)", x.character(313), ' ');
        Expect.same("character(314)", (int) x.character(314), 0);
        Expect.same("module", Expect.module(x), module);
        Expect.same("bytes", Expect.bytes(x), bytes);
        Expect.same("place()", x.place(), 0);
        Expect.same("assemble", Expect.outcome(x), "invalid 0");
    }

    private static void kinds() {
        Expect.sentence("IllegalArgumentException: MALFORMED (PLACE: where); UnsupportedOperationException: TOO MUCH "
                + "(PLACE: where the token is with which it is so); IllegalStateException: INVALID");
        // What cannot be read is not checked: the first two stand ahead of the third, wherever they are.
        Expect.malformed("(module(func drop)(func @x))");
        Expect.malformed("(module(func drop)(func call @$x))");
        Expect.tooMuch("(module(func drop)(func)(func)(func)(@func))");
        Expect.malformed("(module(func drop)@");
        Expect.invalid("(module(func drop)(func))", 0);
    }

    /** The last of 512 calls answers as the first ones did, whatever they were. */
    private static void manyCalls() {
        Expect.sentence("An object is used for at most 512 calls after it has been made");
        StackAssembler x = new StackAssembler();
        for (int calls = 0; calls + 3 < 512; calls += 3) {
            x.wipe();
            Expect.same("type", x.type(Expect.eight("(module)")), true);
            Expect.same("assemble", Expect.outcome(x), "fine 0");
        }
        Expect.same("functions()", x.functions(), 0);
        // Four calls write this text, and each round is two.
        x = Expect.typed("(module(func call $f))");
        for (int calls = 4; calls + 2 < 512; calls += 2) {
            Expect.same("assemble, and place", Expect.outcome(x), "malformed 18");
        }
        Expect.same("functions()", x.functions(), 0);
    }
}
