/** Promises 10 to 13: functions, function, instruction, immediate. */
public final class ModuleTest {
    public static void main(String[] args) {
        StackAssembler x = Expect.assembled("(module(func)(func $f(param i64)(param $x i32)(result i64)(local i32 i64)"
                + " block (result i64) i64.const -5 br 0 end loop end i32.const 4294967295 if (result i32)"
                + " i32.const 1 else i32.const 2 end drop local.get 3 drop (call $f (unreachable)))(func(local i32)))");
        counts(x);
        types(x);
        instructions(x);
        fullModule();
        allCodes();
        Expect.finish();
    }

    private static void counts(StackAssembler x) {
        Expect.same("functions()", x.functions(), 3);
        function(x, 0, 0, 0, 0, 0);
        function(x, 1, 2, 4, 2, 17);
        function(x, 2, 0, 1, 0, 0);
        int[] beyond = {3, 4, 5, -1, Integer.MIN_VALUE, Integer.MAX_VALUE};
        for (int f : beyond) {
            for (int what = -1; what < 14; what++) {
                Expect.same("function(" + f + ", " + what + ")", x.function(f, what), -1);
            }
            Expect.same("instruction(" + f + ", 0)", x.instruction(f, 0), -1);
            Expect.same("immediate(" + f + ", 0)", x.immediate(f, 0), 0L);
        }
    }

    private static void function(StackAssembler x, int f, int... due) {
        for (int what = 0; what < due.length; what++) {
            Expect.same("function(" + f + ", " + what + ")", x.function(f, what), due[what]);
        }
    }

    private static void types(StackAssembler x) {
        int[] due = {2, 1, 1, 2};
        for (int k = 0; k < due.length; k++) {
            Expect.same("type of local " + k, x.function(1, 4 + k), due[k]);
        }
        int[] beyond = {8, 9, 11, 12, 13, -1, Integer.MIN_VALUE, Integer.MAX_VALUE};
        for (int what : beyond) {
            Expect.same("function(1, " + what + ")", x.function(1, what), -1);
        }
        Expect.same("function(0, 4)", x.function(0, 4), -1);
        Expect.same("function(2, 4)", x.function(2, 4), 1);
        Expect.same("function(2, 5)", x.function(2, 5), -1);
    }

    private static void instructions(StackAssembler x) {
        int[] codes = {0x02, 0x42, 0x0C, 0x0B, 0x03, 0x0B, 0x41, 0x04, 0x41, 0x05, 0x41, 0x0B, 0x1A, 0x20, 0x1A,
            0x00, 0x10};
        long[] immediates = {2, -5, 0, 0, 0, 0, -1, 1, 1, 0, 2, 0, 0, 3, 0, 0, 1};
        Expect.same("function(1, 3)", x.function(1, 3), codes.length);
        for (int k = 0; k < codes.length; k++) {
            Expect.same("instruction(1, " + k + ")", x.instruction(1, k), codes[k]);
            Expect.same("immediate(1, " + k + ")", x.immediate(1, k), immediates[k]);
        }
        int[] beyond = {codes.length, 63, 64, 65, -1, Integer.MIN_VALUE, Integer.MAX_VALUE};
        for (int k : beyond) {
            Expect.same("instruction(1, " + k + ")", x.instruction(1, k), -1);
            Expect.same("immediate(1, " + k + ")", x.immediate(1, k), 0L);
        }
        Expect.same("instruction(0, 0)", x.instruction(0, 0), -1);
        Expect.same("instruction(2, 0)", x.instruction(2, 0), -1);
    }

    /** Whatever has no immediate here stands in unreachable code, which gives it what it takes. */
    private static void allCodes() {
        String[] words = {"unreachable", "nop", "block end", "loop end", "if else end", "br 0", "br_if 0", "return",
            "call 0", "drop", "select", "local.get 1", "local.set 1", "local.tee 1", "i32.const -9", "i64.const 9",
            "i32.eqz", "i32.eq", "i32.lt_s", "i32.add", "i32.sub", "i32.mul", "i64.eqz", "i64.eq", "i64.add", "i64.mul",
            "i32.wrap_i64", "i64.extend_i32_s"};
        int[] codes = {0x00, 0x01, 0x02, 0x03, 0x04, 0x0C, 0x0D, 0x0F, 0x10, 0x1A, 0x1B, 0x20, 0x21, 0x22, 0x41, 0x42,
            0x45, 0x46, 0x48, 0x6A, 0x6B, 0x6C, 0x50, 0x51, 0x7C, 0x7E, 0xA7, 0xAC};
        long[] immediates = {0, 0, 0, 0, 0, 0, 0, 0, 0, 0, 0, 1, 1, 1, -9, 9};
        for (int k = 0; k < words.length; k++) {
            StackAssembler x = Expect.assembled("(module(func(local i32 i64)unreachable " + words[k] + " unreachable))");
            Expect.same("the code of " + words[k], x.instruction(0, 1), codes[k]);
            long immediate = k < immediates.length ? immediates[k] : 0;
            Expect.same("the immediate of " + words[k], x.immediate(0, 1), immediate);
        }
        StackAssembler x = Expect.assembled("(module(func unreachable if else end))");
        Expect.same("the code of else", x.instruction(0, 2), 0x05);
        Expect.same("the code of end", x.instruction(0, 3), 0x0B);
    }

    private static void fullModule() {
        StackAssembler x = Expect.assembled("(module(func" + Expect.repeat(" nop", 40) + ")(func)(func"
                + Expect.repeat(" nop", 12) + ")(func(local i32 i32 i64)"
                + Expect.repeat("br 0 ", 4) + Expect.repeat("nop ", 7) + "return))");
        Expect.same("functions()", x.functions(), 4);
        Expect.same("instruction(3, 0)", x.instruction(3, 0), 0x0C);
        Expect.same("instruction(3, 11), the 64th", x.instruction(3, 11), 0x0F);
        Expect.same("instruction(3, 12)", x.instruction(3, 12), -1);
        Expect.same("immediate(3, 12)", x.immediate(3, 12), 0L);
        Expect.same("instruction(2, 11)", x.instruction(2, 11), 0x01);
        Expect.same("instruction(2, 12)", x.instruction(2, 12), -1);
        Expect.same("instruction(1, 0)", x.instruction(1, 0), -1);
        Expect.same("function(3, 6)", x.function(3, 6), 2);
        Expect.same("function(3, 7)", x.function(3, 7), -1);
        x = Expect.assembled("(module(func(param i32 i32 i32 i32 i32 i64)(local i32 i64)))");
        Expect.same("function(0, 0)", x.function(0, 0), 6);
        Expect.same("function(0, 1)", x.function(0, 1), 8);
        Expect.same("function(0, 9)", x.function(0, 9), 2);
        Expect.same("function(0, 11)", x.function(0, 11), 2);
        Expect.same("function(0, 12)", x.function(0, 12), -1);
    }
}
