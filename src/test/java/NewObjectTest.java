/** Promise 1: a new object. */
public final class NewObjectTest {
    public static void main(String[] args) {
        StackAssembler x = new StackAssembler();
        Expect.same("character(0)", (int) x.character(0), 0);
        Expect.same("octet(-1)", x.octet(-1), 0);
        Expect.same("octet(0)", x.octet(0), -1);
        Expect.same("functions()", x.functions(), 0);
        Expect.same("function(0, 0)", x.function(0, 0), -1);
        Expect.same("instruction(0, 0)", x.instruction(0, 0), -1);
        Expect.same("immediate(0, 0)", x.immediate(0, 0), 0L);
        Expect.same("place()", x.place(), 0);
        Expect.same("encode()", x.encode(), 8);
        Expect.same("bytes", Expect.bytes(x), "0061736D01000000");
        Expect.same("print()", x.print(), 8);
        Expect.same("text", Expect.text(x), "(module)");
        objectsAreApart();
        Expect.finish();
    }

    private static void objectsAreApart() {
        StackAssembler one = Expect.assembled("(module(func nop))");
        one.encode();
        StackAssembler other = new StackAssembler();
        Expect.same("functions() of another object", other.functions(), 0);
        Expect.same("text of another object", Expect.text(other), "");
        Expect.same("octet(-1) of another object", other.octet(-1), 0);
    }
}
