/** Promises 5 and 9: what a call leaves as it was; above all one that throws. */
public final class KeepingTest {
    private static final String GOOD = "(module(func(param i32)(result i32)local.get 0)(func $f nop))";

    public static void main(String[] args) {
        throwingKeeps("(module(func(param i64 i64)nop nop) x", "malformed 36");
        throwingKeeps("(module(func)(func)(func)(func)(func))", "too much 32");
        throwingKeeps("(module(func nop nop nop)(func drop))", "invalid 64");
        throwingKeeps("(module(func(local i64)call $f))", "malformed 28");
        throwingKeeps("", "malformed 0");
        assembleKeeps();
        placeStays();
        modulesFollow();
        textsFollow();
        Expect.finish();
    }

    private static void throwingKeeps(String text, String outcome) {
        StackAssembler x = Expect.assembled(GOOD);
        x.encode();
        String bytes = Expect.bytes(x);
        String module = Expect.module(x);
        Expect.write(x, text);
        for (int n = 0; n < 2; n++) {
            Expect.same("assemble of " + text, Expect.outcome(x), outcome);
            Expect.same("text", Expect.text(x), text);
            Expect.same("module", Expect.module(x), module);
            Expect.same("bytes", Expect.bytes(x), bytes);
        }
        x.encode();
        Expect.same("bytes", Expect.bytes(x), bytes);
        x.print();
        Expect.same("assemble of what was printed", Expect.outcome(x), "fine 2");
        Expect.same("module", Expect.module(x), module);
    }

    private static void assembleKeeps() {
        StackAssembler x = Expect.typed("(module(func drop))");
        Expect.outcome(x);
        x.encode();
        Expect.write(x, "(module (func br 0 nop i64.add drop))");
        Expect.same("assemble", Expect.outcome(x), "fine 1");
        Expect.write(x, "(module (func x))");
        Expect.outcome(x);
        Expect.same("place()", x.place(), 14);
        Expect.write(x, GOOD);
        Expect.same("assemble", Expect.outcome(x), "fine 2");
        Expect.same("text", Expect.text(x), GOOD);
        Expect.same("bytes", Expect.bytes(x), "0061736D01000000");
        Expect.same("place()", x.place(), 14);
    }

    private static void placeStays() {
        StackAssembler x = Expect.typed("(module(func)(func)(func nop drop))");
        Expect.outcome(x);
        Expect.same("place()", x.place(), 129);
        x.wipe();
        x.type(1);
        x.type('x');
        x.encode();
        x.print();
        Expect.same("place()", x.place(), 129);
        Expect.same("functions()", x.functions(), 0);
        Expect.write(x, "x");
        Expect.outcome(x);
        Expect.same("place()", x.place(), 0);
    }

    private static void modulesFollow() {
        StackAssembler x = Expect.assembled("(module(func $f(param $x i32)(result i32)(local i64)block $a end local.get $x))");
        Expect.write(x, "(module(func(local i64)))");
        Expect.same("assemble", Expect.outcome(x), "fine 1");
        Expect.same("module", Expect.module(x), "func 0 1 0 0 2\n");
        Expect.write(x, "(module(func call $f))");
        Expect.same("a name of an earlier module", Expect.outcome(x), "malformed 18");
        Expect.write(x, "(module(func(local i32)local.get $x drop))");
        Expect.same("a local of an earlier module", Expect.outcome(x), "malformed 33");
        Expect.write(x, "(module)");
        Expect.same("assemble", Expect.outcome(x), "fine 0");
        Expect.same("functions()", x.functions(), 0);
        Expect.same("function(0, 0)", x.function(0, 0), -1);
        Expect.same("instruction(0, 0)", x.instruction(0, 0), -1);
    }

    /** Nothing of an earlier text, fine or not, is left when the next one is read and checked. */
    private static void textsFollow() {
        StackAssembler x = new StackAssembler();
        String[] texts = {
            "(module(func(result i64)unreachable))", "fine 1",
            "(module(func(result i64)unreachable))", "fine 1",
            "(module(func))", "fine 1",
            "(module(func))", "fine 1",
            "(module(func      $f))", "fine 1",
            "(module(func call $f))", "malformed 18",
            "(module(func)(func $f))", "fine 2",
            "(module(func  call $f))", "malformed 19",
            "(module(func(param           $x i32)))", "fine 1",
            "(module(func(param i32)local.get $x))", "malformed 33",
            "(module(func(local i64)i64.const 1 i64.const 2))", "invalid 2",
            "(module(func drop))", "invalid 0",
            "(module(func block block i32.const 1 end end))", "invalid 3",
            "(module(func))", "fine 1",
            "(module(func block block i32.const 1 end end))", "invalid 3",
            "(module(func br 1))", "invalid 0",
            "(module(func unreachable))", "fine 1",
            "(module(func drop))", "invalid 0",
            "(module(func block $a i32.const", "malformed 31",
            "(module)", "fine 0",
            "(module(func block $a end", "malformed 25",
            "(module(func $a))", "fine 1",
        };
        for (int k = 0; k < texts.length; k += 2) {
            Expect.write(x, texts[k]);
            Expect.same("assemble of " + texts[k], Expect.outcome(x), texts[k + 1]);
        }
        Expect.same("function(0, 2)", x.function(0, 2), 0);
    }
}
