/** The example of README.md, call by call. */
public final class UsageTest {
    public static void main(String[] args) {
        StackAssembler x = new StackAssembler();
        String text = "(module (func (result i32) (i32.add (i32.const 1) (i32.const 2))))";
        for (int k = 0; k < text.length(); k++) {
            Expect.same("type of character " + k, x.type(text.charAt(k)), true);
        }
        Expect.same("assemble()", x.assemble(), 1);
        module(x);
        Expect.same("encode()", x.encode(), 30);
        Expect.same("octet(-1)", x.octet(-1), 30);
        Expect.same("bytes", Expect.bytes(x), "0061736D01000000" + "01050160" + "00017F" + "03020100" + "0A0901" + "0700"
                + "410141026A" + "0B");
        Expect.same("print()", x.print(), 58);
        Expect.same("text", Expect.text(x), "(module(func(result i32) i32.const 1 i32.const 2 i32.add))");
        faulty(x);
        Expect.finish();
    }

    private static void module(StackAssembler x) {
        Expect.same("functions()", x.functions(), 1);
        Expect.same("function(0, 2)", x.function(0, 2), 1);
        Expect.same("function(0, 3)", x.function(0, 3), 3);
        Expect.same("instruction(0, 2)", x.instruction(0, 2), 0x6A);
        Expect.same("immediate(0, 1)", x.immediate(0, 1), 2L);
    }

    private static void faulty(StackAssembler x) {
        x.wipe();
        Expect.same("type(\"(module\")", x.type(0x286D6F64756C65L), true);
        Expect.same("assemble of (module", Expect.outcome(x), "malformed 7");
        Expect.same("functions() is as before", x.functions(), 1);
    }
}
