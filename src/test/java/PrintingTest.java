/** Promise 8: print. */
public final class PrintingTest {
    public static void main(String[] args) {
        wholeModules();
        instructions();
        numbers();
        keepsTheLimit();
        textGoesOn();
        printsAgain();
        Expect.finish();
    }

    private static void printed(String text, String due) {
        StackAssembler x = Expect.assembled(text);
        Expect.same("print of " + text, x.print(), due.length());
        Expect.same("print of " + text, Expect.text(x), due);
        String module = Expect.module(x);
        Expect.same("assemble of " + due, Expect.outcome(x).startsWith("fine"), true);
        Expect.same("module of " + due, Expect.module(x), module);
    }

    private static void body(String instructions, String due) {
        printed("(module(func " + instructions + "))", "(module(func " + due + "))");
    }

    private static void wholeModules() {
        printed(" ( module ) ;; nothing", "(module)");
        printed("(module (func $f) (func (; two ;) ) )", "(module(func)(func))");
        printed("(module(func $f(param $x i32)(param)(param i64 i32)(result i64)(local i32)(local $y i64)(i64.const 1)))",
                "(module(func(param i32 i64 i32)(result i64)(local i32 i64) i64.const 1))");
        printed("(module(func(param)(local)))", "(module(func))");
        printed("(module(func(local i64)))", "(module(func(local i64)))");
        printed("(module(func(result i32)(unreachable)))", "(module(func(result i32) unreachable))");
    }

    private static void instructions() {
        body("(drop(i32.add(i32.const +1)(i32.const 02)))", "i32.const 1 i32.const 2 i32.add drop");
        body("block $a block(br $a)end end $a", "block block br 1 end end");
        body("block(result i32)unreachable end(drop)", "block (result i32) unreachable end drop");
        body("loop $l(result i64)unreachable end drop", "loop (result i64) unreachable end drop");
        body("(unreachable)if $i(result i32)i32.const 1 else $i i32.const 2 end $i drop",
                "unreachable if (result i32) i32.const 1 else i32.const 2 end drop");
        body("call 00 return", "call 0 return");
        printed("(module(func call $b)(func $b(param)(local $z i32 )(local.set $z(local.tee $z(local.get $z)))))",
                "(module(func call 1)(func(local i32) local.get 0 local.tee 0 local.set 0))");
        body("unreachable br_if 0 nop select i32.eqz i32.eq i32.lt_s i32.sub i32.mul drop",
                "unreachable br_if 0 nop select i32.eqz i32.eq i32.lt_s i32.sub i32.mul drop");
        body("unreachable i64.eqz drop i64.eq drop i64.add i64.mul i32.wrap_i64 i64.extend_i32_s drop",
                "unreachable i64.eqz drop i64.eq drop i64.add i64.mul i32.wrap_i64 i64.extend_i32_s drop");
    }

    private static void numbers() {
        number("i32.const", "4294967295", "-1");
        number("i32.const", "2147483648", "-2147483648");
        number("i32.const", "+2147483647", "2147483647");
        number("i32.const", "-0", "0");
        number("i32.const", "10", "10");
        number("i32.const", "-99", "-99");
        number("i32.const", "100", "100");
        number("i64.const", "9223372036854775808", "-9223372036854775808");
        number("i64.const", "9223372036854775807", "9223372036854775807");
        number("i64.const", "18446744073709551615", "-1");
        number("i64.const", "4294967295", "4294967295");
        number("i64.const", "1000000000000000000", "1000000000000000000");
        number("i64.const", "-999999999999999999", "-999999999999999999");
    }

    private static void number(String word, String written, String due) {
        body(word + " " + written + " drop", word + " " + due + " drop");
    }

    /** A text without needless blanks may be shorter than what is printed. */
    private static void keepsTheLimit() {
        String tight = "(module(func " + "block(result i32)(unreachable)end(drop)".repeat(7);
        String printed = "(module(func" + " block (result i32) unreachable end drop".repeat(7);
        String due = printed + " nop nop nop nop br 0 br 0))";
        Expect.same("length of what is due", due.length(), 320);
        printed(tight + "(nop)(nop)(nop)(nop)br 0 br 0))", due);
        Expect.same("length of what is too long", (printed + " nop nop nop br 0 br 0 br 0))").length(), 321);
        tooLong(tight + "nop nop nop(br 0)br 0 br 0))");
        tooLong("(module(func" + " i64.const 9223372036854775808".repeat(9) + " return" + " br 0".repeat(5) + "))");
    }

    private static void tooLong(String text) {
        StackAssembler x = Expect.typed("(module(func drop))");
        Expect.outcome(x);
        Expect.write(x, text);
        x.assemble();
        String module = Expect.module(x);
        int place = x.place();
        for (int n = 0; n < 2; n++) {
            Expect.same("print throws", Expect.printThrows(x), true);
            Expect.same("text", Expect.text(x), text);
            Expect.same("module", Expect.module(x), module);
            Expect.same("place()", x.place(), place);
        }
        Expect.write(x, "(module)");
        x.assemble();
        Expect.same("print()", x.print(), 8);
    }

    private static void printsAgain() {
        StackAssembler x = Expect.assembled("(module(func (nop)))");
        Expect.same("print()", x.print(), 18);
        x.wipe();
        Expect.same("print()", x.print(), 18);
        Expect.same("text", Expect.text(x), "(module(func nop))");
        String tight = "(module(func" + " i64.const 9223372036854775808".repeat(9) + " return" + " br 0".repeat(5) + "))";
        Expect.write(x, tight);
        x.assemble();
        Expect.same("print throws", Expect.printThrows(x), true);
        Expect.same("text", Expect.text(x), tight);
        Expect.write(x, "(module (func))");
        x.assemble();
        Expect.same("print()", x.print(), 14);
        Expect.same("text", Expect.text(x), "(module(func))");
    }

    private static void textGoesOn() {
        StackAssembler x = Expect.typed("(module(func (nop)))");
        x.assemble();
        Expect.write(x, Expect.repeat("x", 320));
        Expect.same("print()", x.print(), 18);
        Expect.same("type behind it", x.type(Expect.eight(" x")), true);
        Expect.same("text", Expect.text(x), "(module(func nop)) x");
        Expect.same("assemble", Expect.outcome(x), "malformed 19");
        x.wipe();
        Expect.same("text", Expect.text(x), "");
    }
}
