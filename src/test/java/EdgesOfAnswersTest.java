/** The edges of promises 10 to 13: what is asked of the module, one below, one beyond, and far away. */
public final class EdgesOfAnswersTest {
    private static final int[] FAR = {-2, Integer.MIN_VALUE, Integer.MAX_VALUE, Integer.MIN_VALUE + 4, 1 << 16};

    public static void main(String[] args) {
        functions();
        functionBeyond();
        functionWhat();
        functionTypes();
        functionWhatBeyond();
        instructions();
        instructionsBeyond();
        instructionsSideBySide();
        immediates();
        immediatesOfNone();
        immediatesBeyond();
        fullModule();
        Expect.finish();
    }

    private static void functions() {
        Expect.sentence("How many functions the module has.");
        StackAssembler x = new StackAssembler();
        Expect.same("functions() of a new object", x.functions(), 0);
        for (int many : new int[] {4, 1, 0, 2, 3}) {
            Expect.write(x, "(module" + "(func)".repeat(many) + ")");
            Expect.same("functions() before assemble", x.functions() == many, false);
            Expect.same("assemble()", x.assemble(), many);
            Expect.same("functions()", x.functions(), many);
        }
    }

    private static void functionBeyond() {
        Expect.sentence("-1 when there is no such thing.");
        for (int many = 0; many <= 4; many++) {
            StackAssembler x = Expect.assembled("(module" + "(func(local i32)nop)".repeat(many) + ")");
            for (int what = -1; what <= 5; what++) {
                Expect.same("function(-1, " + what + ")", x.function(-1, what), -1);
                Expect.same("function(" + many + ", " + what + ")", x.function(many, what), -1);
                Expect.same("function(" + (many + 1) + ", " + what + ")", x.function(many + 1, what), -1);
            }
            for (int f : FAR) {
                Expect.same("function(" + f + ", 0)", x.function(f, 0), -1);
                Expect.same("function(" + f + ", 4)", x.function(f, 4), -1);
            }
            Expect.same("the last function", x.function(many - 1, 1), many == 0 ? -1 : 1);
        }
    }

    private static void functionWhat() {
        Expect.sentence("0 how many parameters, 1 how many parameters and locals, 2 its result (0 none, 1 I, 2 J), "
                + "3 how many instructions");
        StackAssembler x = Expect.assembled("(module(func)(func(param i32 i64)(result i64)(local i32)i64.const 1)"
                + "(func(param" + " i64".repeat(6) + ")(result i32)(local i32 i32)block end i32.const 1))");
        int[][] due = {{0, 0, 0, 0}, {2, 3, 2, 1}, {6, 8, 1, 3}};
        for (int f = 0; f < due.length; f++) {
            for (int what = 0; what < 4; what++) {
                Expect.same("function(" + f + ", " + what + ")", x.function(f, what), due[f][what]);
            }
        }
    }

    private static void functionTypes() {
        Expect.sentence("4 + k the type of parameter or local k (1, 2)");
        StackAssembler x = Expect.assembled("(module(func(param i32 i64 i64 i32 i32 i64)(local i64 i32)))");
        int[] due = {1, 2, 2, 1, 1, 2, 2, 1};
        for (int k = 0; k < due.length; k++) {
            Expect.same("function(0, " + (4 + k) + ")", x.function(0, 4 + k), due[k]);
        }
        Expect.same("function(0, 12)", x.function(0, 12), -1);
    }

    private static void functionWhatBeyond() {
        Expect.sentence("-1 when there is no such thing.");
        for (int slots = 0; slots <= 8; slots++) {
            StackAssembler x = Expect.assembled("(module(func(local" + " i64".repeat(slots) + "))(func(local" + " i32".repeat(8)
                    + ")))");
            Expect.same("function(0, -1)", x.function(0, -1), -1);
            for (int what = 0; what < 4 + slots; what++) {
                Expect.same("function(0, " + what + ") is there", x.function(0, what) >= 0, true);
            }
            for (int what = 4 + slots; what <= 14; what++) {
                Expect.same("function(0, " + what + ")", x.function(0, what), -1);
            }
            for (int what : FAR) {
                Expect.same("function(0, " + what + ")", x.function(0, what), -1);
            }
        }
    }

    private static void instructions() {
        Expect.sentence("Instruction k of function f: its code");
        String[] words = {"unreachable", "nop", "br 0", "br_if 0", "return", "call 0", "drop", "select", "local.get 0",
            "local.set 0", "local.tee 0", "i32.const 0", "i64.const 0", "i32.eqz", "i32.eq", "i32.lt_s", "i32.add", "i32.sub",
            "i32.mul", "i64.eqz", "i64.eq", "i64.add", "i64.mul", "i32.wrap_i64", "i64.extend_i32_s"};
        int[] codes = {0x00, 0x01, 0x0C, 0x0D, 0x0F, 0x10, 0x1A, 0x1B, 0x20, 0x21, 0x22, 0x41, 0x42, 0x45, 0x46, 0x48, 0x6A,
            0x6B, 0x6C, 0x50, 0x51, 0x7C, 0x7E, 0xA7, 0xAC};
        for (int k = 0; k < words.length; k++) {
            StackAssembler x = Expect.assembled("(module(func(local i32)unreachable " + words[k] + " return))");
            Expect.same("the code of " + words[k], x.instruction(0, 1), codes[k]);
            x = Expect.assembled("(module(func(local i32)unreachable(" + words[k] + ")return))");
            Expect.same("the code of folded " + words[k], x.instruction(0, 1), codes[k]);
        }
        StackAssembler x = Expect.assembled("(module(func block end loop end unreachable if else end))");
        int[] blocks = {0x02, 0x0B, 0x03, 0x0B, 0x00, 0x04, 0x05, 0x0B};
        for (int k = 0; k < blocks.length; k++) {
            Expect.same("instruction(0, " + k + ")", x.instruction(0, k), blocks[k]);
        }
    }

    private static void instructionsBeyond() {
        Expect.sentence("its code; -1 when there is none.");
        for (int many : new int[] {0, 1, 2, 63, 64}) {
            StackAssembler x = Expect.assembled("(module(func" + " nop".repeat(many) + "))");
            Expect.same("instruction(0, -1)", x.instruction(0, -1), -1);
            Expect.same("the last instruction", x.instruction(0, many - 1), many == 0 ? -1 : 1);
            for (int k = many; k <= 66; k++) {
                Expect.same("instruction(0, " + k + ") of " + many, x.instruction(0, k), -1);
            }
            for (int far : FAR) {
                Expect.same("instruction(0, " + far + ")", x.instruction(0, far), -1);
                Expect.same("instruction(" + far + ", 0)", x.instruction(far, 0), -1);
            }
            Expect.same("instruction(-1, 0)", x.instruction(-1, 0), -1);
            Expect.same("instruction(1, 0)", x.instruction(1, 0), -1);
            Expect.same("instruction(4, 0)", x.instruction(4, 0), -1);
        }
    }

    private static void instructionsSideBySide() {
        Expect.sentence("Instruction k of function f: its code; -1 when there is none.");
        StackAssembler x = Expect.assembled("(module(func nop)(func i32.const 7 drop)(func)(func return nop nop))");
        int[][] codes = {{0x01}, {0x41, 0x1A}, {}, {0x0F, 0x01, 0x01}};
        for (int f = 0; f < codes.length; f++) {
            Expect.same("instruction(" + f + ", -1)", x.instruction(f, -1), -1);
            for (int k = 0; k < codes[f].length; k++) {
                Expect.same("instruction(" + f + ", " + k + ")", x.instruction(f, k), codes[f][k]);
            }
            for (int k = codes[f].length; k < 9; k++) {
                Expect.same("instruction(" + f + ", " + k + ")", x.instruction(f, k), -1);
                Expect.same("immediate(" + f + ", " + k + ")", x.immediate(f, k), 0L);
            }
        }
        Expect.same("immediate(0, 1), which is that of the next function", x.immediate(0, 1), 0L);
        Expect.same("immediate(1, 0)", x.immediate(1, 0), 7L);
        Expect.same("immediate(3, -3)", x.immediate(3, -3), 0L);
    }

    private static void immediates() {
        Expect.sentence("Its immediate (a result 0, 1, 2)");
        for (String word : new String[] {"block", "loop", "if"}) {
            String rest = " unreachable" + (word.equals("if") ? " else unreachable" : "") + " end return))";
            StackAssembler x = Expect.assembled("(module(func unreachable " + word + rest);
            Expect.same("of " + word, x.immediate(0, 1), 0L);
            x = Expect.assembled("(module(func unreachable " + word + "(result i32)" + rest);
            Expect.same("of " + word + " (result i32)", x.immediate(0, 1), 1L);
            x = Expect.assembled("(module(func unreachable " + word + "(result i64)" + rest);
            Expect.same("of " + word + " (result i64)", x.immediate(0, 1), 2L);
        }
        StackAssembler x = Expect.assembled("(module(func(local" + " i32".repeat(8) + ")local.get 7 br_if 0"
                + " i32.const -2147483648 i64.const 9223372036854775807 br 0 call 1 local.tee 7 local.set 6 return)(func))");
        long[] due = {7, 0, Integer.MIN_VALUE, Long.MAX_VALUE, 0, 1, 7, 6};
        for (int k = 0; k < due.length; k++) {
            Expect.same("immediate(0, " + k + ")", x.immediate(0, k), due[k]);
        }
    }

    private static void immediatesOfNone() {
        Expect.sentence("0 when it has none, or is none.");
        String[] words = {"unreachable", "nop", "return", "drop", "select", "i32.eqz", "i32.eq", "i32.lt_s", "i32.add",
            "i32.sub", "i32.mul", "i64.eqz", "i64.eq", "i64.add", "i64.mul", "i32.wrap_i64", "i64.extend_i32_s"};
        // The longer module before has an immediate at each place.
        StackAssembler x = Expect.assembled("(module(func" + " i64.const 77".repeat(8) + " return))");
        for (String word : words) {
            Expect.write(x, "(module(func return " + word + " return))");
            x.assemble();
            Expect.write(x, "(module(func unreachable " + word + " return))");
            x.assemble();
            Expect.same("the immediate of " + word, x.immediate(0, 1), 0L);
            Expect.same("the immediate behind the last", x.immediate(0, 3), 0L);
        }
        x = Expect.assembled("(module(func" + " i64.const 77".repeat(8) + " return))");
        for (int n = 0; n < 2; n++) {
            Expect.write(x, "(module(func unreachable if(result i64)unreachable else unreachable end(nop)drop))");
            x.assemble();
            for (int k : new int[] {0, 2, 3, 4, 5, 6, 7, 8}) {
                Expect.same("immediate(0, " + k + ")", x.immediate(0, k), 0L);
            }
        }
    }

    private static void immediatesBeyond() {
        Expect.sentence("0 when it has none, or is none.");
        StackAssembler x = Expect.assembled("(module(func i32.const 5 drop i32.const 6 return))");
        int[] none = {-1, 4, 5, 63, 64, 65};
        for (int k : none) {
            Expect.same("immediate(0, " + k + ")", x.immediate(0, k), 0L);
        }
        for (int far : FAR) {
            Expect.same("immediate(0, " + far + ")", x.immediate(0, far), 0L);
            Expect.same("immediate(" + far + ", 0)", x.immediate(far, 0), 0L);
        }
        Expect.same("immediate(-1, 0)", x.immediate(-1, 0), 0L);
        Expect.same("immediate(1, 0)", x.immediate(1, 0), 0L);
        Expect.same("immediate(4, 0)", x.immediate(4, 0), 0L);
        Expect.same("immediate(0, 0) of a new object", new StackAssembler().immediate(0, 0), 0L);
    }

    private static void fullModule() {
        Expect.sentence("and a row of INSTRUCTIONS, of which the module has at most 64");
        StackAssembler x = Expect.assembled("(module" + ("(func" + " nop".repeat(15) + " br 0)").repeat(4) + ")");
        for (int f = 0; f < 4; f++) {
            Expect.same("function(" + f + ", 3)", x.function(f, 3), 16);
            Expect.same("instruction(" + f + ", 0)", x.instruction(f, 0), 0x01);
            Expect.same("instruction(" + f + ", 15)", x.instruction(f, 15), 0x0C);
            Expect.same("instruction(" + f + ", 16)", x.instruction(f, 16), -1);
        }
    }
}
