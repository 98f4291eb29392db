/** The edges of promise 5 that are limits: what is just within them, and the token with which it is TOO MUCH. */
public final class EdgesOfLimitsTest {
    private static final String SIX = " i32 i64 i32 i64 i32 i64";
    private static final String TEN_BLOCKS = " block".repeat(10);
    private static final String TEN_ENDS = " end".repeat(10);

    public static void main(String[] args) {
        functions();
        fifthFunction();
        parameters();
        parameterTooMany();
        slots();
        slotTooMany();
        secondNameAheadOfTypeTooMany();
        results();
        instructions();
        sixtyFifthWord();
        sixtyFifthElse();
        sixtyFifthEnd();
        sixtyFifthFolded();
        depth();
        deeperParenthesis();
        deeperResult();
        deeperBlock();
        firstDecides();
        aheadOfWhatStandsBehind();
        Expect.finish();
    }

    private static String nops(int many) {
        return " nop".repeat(many);
    }

    private static void functions() {
        Expect.sentence("A MODULE has at most 4 FUNCTIONS.");
        for (int many = 0; many <= 4; many++) {
            StackAssembler x = Expect.typed("(module" + "(func)".repeat(many) + ")");
            Expect.same("assemble of " + many + " functions", Expect.outcome(x), "fine " + many);
            Expect.same("functions()", x.functions(), many);
        }
    }

    private static void fifthFunction() {
        Expect.sentence("a fifth func (the word)");
        String four = "(module" + "(func)".repeat(4);
        Expect.tooMuch(four + "(@func))");
        Expect.tooMuch(four + "( (;;) @func $f (param i32)");
        Expect.tooMuch(four + "(@func");
        Expect.malformed(four + "(@");
        Expect.malformed(four + "(@module))");
        Expect.malformed(four + "@func)");
        Expect.malformed(four + "(@)");
        Expect.tooMuch("(module(func $a)(func $b)(func $c)(func $d)(@func $a))");
    }

    private static void parameters() {
        Expect.sentence("A function has at most 6 PARAMETERS");
        for (int many = 0; many <= 6; many++) {
            String types = " i64".repeat(many);
            hasSlots("(module(func(param" + types + ")))", many, many);
            hasSlots("(module(func" + "(param i32)".repeat(many) + "))", many, many);
        }
        hasSlots("(module(func(param $a i32)(param i64 i32)(param $b i64)(param i32 i64)(param)))", 6, 6);
        hasSlots("(module(func))", 0, 0);
    }

    private static void hasSlots(String text, int parameters, int slots) {
        StackAssembler x = Expect.assembled(text);
        Expect.same("function(0, 0) of " + text, x.function(0, 0), parameters);
        Expect.same("function(0, 1) of " + text, x.function(0, 1), slots);
        Expect.same("the type behind the last of " + text, x.function(0, 4 + slots), -1);
    }

    private static void parameterTooMany() {
        Expect.sentence("a type of one parameter, or parameter and local, too many");
        Expect.tooMuch("(module(func(param" + SIX + " @i32)))");
        Expect.tooMuch("(module(func(param" + SIX + ")(param @i64)))");
        Expect.tooMuch("(module(func(param" + SIX + ")(param $x @i64)))");
        Expect.tooMuch("(module(func" + "(param i32)".repeat(6) + "(param @i32");
        Expect.malformed("(module(func(param" + SIX + " @f32)))");
        Expect.malformed("(module(func(param" + SIX + " @$x i32)))");
        Expect.malformed("(module(func(param" + SIX + ")(param $x @)))");
        Expect.tooMuch("(module(func(param" + SIX + "))(func(param" + SIX + " @i32)))");
    }

    private static void slots() {
        Expect.sentence("and, behind them, LOCALS, together at most 8, each of a type");
        for (int parameters = 0; parameters <= 6; parameters++) {
            for (int locals = 0; parameters + locals <= 8; locals++) {
                String params = parameters == 0 ? "" : "(param" + " i32".repeat(parameters) + ")";
                String local = "(local" + " i64".repeat(locals) + ")";
                hasSlots("(module(func" + params + local + "))", parameters, parameters + locals);
            }
        }
        hasSlots("(module(func(local $a i64)(local i32)(local)(local" + SIX + ")))", 0, 8);
        Expect.fine("(module(func(param" + SIX + ")(local i32 i32))(func(param" + SIX + ")(local i32 i32)))");
    }

    private static void slotTooMany() {
        Expect.sentence("a type of one parameter, or parameter and local, too many");
        for (int parameters = 0; parameters <= 6; parameters++) {
            String params = "(module(func(param" + " i64".repeat(parameters) + ")";
            Expect.tooMuch(params + "(local" + " i32".repeat(8 - parameters) + " @i64)))");
            Expect.tooMuch(params + "(local i32)".repeat(8 - parameters) + "(local $x @i32)))");
        }
        Expect.malformed("(module(func(local" + SIX + " i32 i32 @nop)))");
        Expect.malformed("(module(func(local" + SIX + " i32 i32)(local $x @)))");
        Expect.tooMuch("(module(func(local" + SIX + " i32 i32))(func(local" + SIX + " i32 i32 @i32)))");
    }

    private static void secondNameAheadOfTypeTooMany() {
        Expect.sentence("What comes first in the text decides between MALFORMED and TOO MUCH.");
        String sixParams = "(module(func(param $a i64)(param" + " i32".repeat(4) + ")(param $b i32)";
        Expect.malformed(sixParams + "(param @$a i32)))");
        Expect.malformed(sixParams + "(param @$b i32)))");
        Expect.tooMuch(sixParams + "(param $c @i32)))");
        String eight = sixParams + "(local $c i32)(local $d i64)";
        for (String name : new String[] {"$a", "$b", "$c", "$d"}) {
            Expect.malformed(eight + "(local @" + name + " i32)))");
        }
        Expect.tooMuch(eight + "(local $e @i32)))");
    }

    private static void results() {
        Expect.sentence("a RESULT of a type, or none");
        Expect.same("no result", Expect.assembled("(module(func))").function(0, 2), 0);
        Expect.same("i32", Expect.assembled("(module(func(result i32)unreachable))").function(0, 2), 1);
        Expect.same("i64", Expect.assembled("(module(func(result i64)unreachable))").function(0, 2), 2);
        Expect.malformed("(module(func(result@)))");
        Expect.malformed("(module(func(result i32 @i32)))");
        Expect.malformed("(module(func(result i32)(@result i32)))");
        Expect.malformed("(module(func block(result@)end))");
        Expect.malformed("(module(func block(result i32 @i64)end))");
        Expect.malformed("(module(func block(result i32)(@result i32)end))");
    }

    private static void instructions() {
        Expect.sentence("a row of INSTRUCTIONS, of which the module has at most 64 "
                + "(end and else count, the last end of a function does not stand in its row)");
        hasInstructions("(module(func))", 0);
        hasInstructions("(module(func" + nops(64) + "))", 64);
        hasInstructions("(module(func block" + nops(62) + " end))", 64);
        hasInstructions("(module(func i32.const 1 if" + nops(60) + " else end))", 64);
        hasInstructions("(module(func" + nops(60) + "(nop(nop)(nop(nop)))))", 64);
        hasInstructions("(module(func" + nops(61) + ")(func" + nops(2) + ")(func nop))", 61);
        Expect.fine("(module" + ("(func" + nops(16) + ")").repeat(4) + ")");
    }

    private static void hasInstructions(String text, int many) {
        StackAssembler x = Expect.assembled(text);
        Expect.same("function(0, 3) of " + text, x.function(0, 3), many);
        Expect.same("the instruction behind the last of " + text, x.instruction(0, many), -1);
    }

    private static void sixtyFifthWord() {
        Expect.sentence("a word of an instruction (also else and end), or the ) of a folded one, "
                + "that would be the 65th instruction");
        String[] words = {"unreachable", "nop", "block", "loop", "if", "br", "br_if", "return", "call", "drop", "select",
            "local.get", "local.set", "local.tee", "i32.const", "i64.const", "i32.eqz", "i64.eqz", "i64.add"};
        for (String word : words) {
            Expect.tooMuch("(module(func" + nops(64) + " @" + word + " 0))");
            Expect.tooMuch("(module(func" + nops(40) + ")(func" + nops(24) + " @" + word + " x");
        }
        Expect.tooMuch("(module" + ("(func" + nops(16) + ")").repeat(3) + "(func" + nops(16) + " @nop))");
        Expect.malformed("(module(func" + nops(64) + " @nops))");
        Expect.malformed("(module(func" + nops(64) + " @$a))");
        Expect.malformed("(module(func" + nops(64) + " @0))");
    }

    private static void sixtyFifthElse() {
        Expect.sentence("a word of an instruction (also else and end)");
        Expect.tooMuch("(module(func i32.const 1 if" + nops(62) + " @else end))");
        Expect.malformed("(module(func i32.const 1 if" + nops(61) + " else @else end))");
        Expect.malformed("(module(func" + nops(64) + " @else))");
        Expect.malformed("(module(func block" + nops(63) + " @else end))");
    }

    private static void sixtyFifthEnd() {
        Expect.sentence("a word of an instruction (also else and end)");
        Expect.tooMuch("(module(func block" + nops(63) + " @end))");
        Expect.tooMuch("(module(func loop" + nops(63) + " @end $a))");
        Expect.tooMuch("(module(func" + nops(63) + " block @end))");
        Expect.tooMuch("(module(func i32.const 1 if" + nops(62) + " @end))");
        Expect.tooMuch("(module(func i32.const 1 if else" + nops(61) + " @end))");
        Expect.malformed("(module(func" + nops(64) + " @end))");
    }

    private static void sixtyFifthFolded() {
        Expect.sentence("or the ) of a folded one, that would be the 65th instruction");
        Expect.fine("(module(func" + nops(63) + "(nop)))");
        Expect.tooMuch("(module(func" + nops(64) + "(nop@)))");
        Expect.tooMuch("(module(func" + nops(64) + "(br 0@)))");
        Expect.tooMuch("(module(func" + nops(63) + "(nop(nop)@)))");
        Expect.tooMuch("(module(func" + nops(63) + "(nop(nop)(nop@)))");
        Expect.tooMuch("(module(func" + nops(62) + "(nop)(nop)(nop@)))");
        Expect.tooMuch("(module(func" + nops(63) + "(nop)@nop))");
        Expect.tooMuch("(module(func block" + nops(62) + "(nop)@end))");
        Expect.malformed("(module(func" + nops(64) + "(nop @nop)))");
        Expect.malformed("(module(func" + nops(64) + "(br @)))");
        Expect.malformed("(module(func" + nops(64) + "(@block)))");
        Expect.malformed("(module(func" + nops(64) + "(nop@");
    }

    private static void depth() {
        Expect.sentence("is one deeper than what it is in, that of module is 1.");
        Expect.fine("(module(func" + TEN_BLOCKS + TEN_ENDS + "))");
        Expect.fine("(module(func" + " loop".repeat(10) + TEN_ENDS + "))");
        Expect.fine("(module(func unreachable" + " i32.const 0 if".repeat(10) + TEN_ENDS + "))");
        Expect.fine("(module(func" + "(nop".repeat(10) + ")".repeat(10) + "))");
        Expect.fine("(module(func" + TEN_BLOCKS + TEN_ENDS + TEN_BLOCKS + TEN_ENDS + "(nop)))");
        for (int blocks = 0; blocks < 10; blocks++) {
            String folded = "(nop".repeat(10 - blocks) + ")".repeat(10 - blocks);
            Expect.fine("(module(func" + " block".repeat(blocks) + folded + " end".repeat(blocks) + "))");
        }
        Expect.fine("(module(func" + " block".repeat(9) + "(result i32)unreachable end drop" + " end".repeat(8) + "))");
        Expect.fine("(module(func(param i32)(result i64)(local i32)unreachable))");
    }

    private static void deeperParenthesis() {
        Expect.sentence("what would be deeper than 12: a parenthesis (its ( ;");
        Expect.tooMuch("(module(func" + "(nop".repeat(10) + "@(nop" + ")".repeat(13));
        Expect.tooMuch("(module(func" + "(nop".repeat(9) + "(br 0 @(");
        for (int blocks = 0; blocks <= 10; blocks++) {
            Expect.tooMuch("(module(func" + " block".repeat(blocks) + "(nop".repeat(10 - blocks) + "@(nop)))");
        }
        Expect.tooMuch("(module(func" + TEN_BLOCKS + " nop @(nop)" + TEN_ENDS + "))");
        Expect.tooMuch("(module(func" + " block".repeat(9) + " i32.const 1 if else @(nop)" + TEN_ENDS + "))");
        Expect.tooMuch("(module(func" + TEN_BLOCKS + " end block @(nop)" + TEN_ENDS + "))");
        Expect.tooMuch("(module(func" + "(nop".repeat(10) + ")(nop @(nop" + ")".repeat(13));
        Expect.malformed("(module(func" + "(nop".repeat(9) + "(br @(nop)" + ")".repeat(12));
        Expect.malformed("(module(func" + "(nop".repeat(10) + " @nop");
    }

    private static void deeperResult() {
        Expect.sentence("also that of a block's result, in the block)");
        Expect.tooMuch("(module(func" + TEN_BLOCKS + "@(result i32)unreachable end drop" + " end".repeat(9) + "))");
        Expect.tooMuch("(module(func" + " block".repeat(9) + " loop $a @(result i64)");
        Expect.tooMuch("(module(func" + " block".repeat(9) + " i32.const 1 if @(result i64)");
    }

    private static void deeperBlock() {
        Expect.sentence("or a block, loop, if without one (its word)");
        Expect.tooMuch("(module(func" + TEN_BLOCKS + " @block" + TEN_ENDS + " end))");
        Expect.tooMuch("(module(func" + TEN_BLOCKS + " @loop $a end");
        Expect.tooMuch("(module(func" + TEN_BLOCKS + " i32.const 1 @if end");
        Expect.tooMuch("(module(func" + " loop".repeat(10) + " nop end loop @block");
        Expect.tooMuch("(module(func" + " block".repeat(9) + " i32.const 1 if else @loop");
        Expect.malformed("(module(func" + "(nop".repeat(10) + " @block");
    }

    private static void firstDecides() {
        Expect.sentence("What comes first in the text decides between MALFORMED and TOO MUCH.");
        Expect.malformed("(module(func @x)" + "(func)".repeat(4) + ")");
        Expect.tooMuch("(module" + "(func)".repeat(4) + "(@func x))");
        Expect.malformed("(module(func(param i32 @x i32 i32 i32 i32 i32 i32)))");
        Expect.tooMuch("(module(func(param" + SIX + " @i32 x)))");
        Expect.malformed("(module(func @x" + nops(65) + "))");
        Expect.tooMuch("(module(func" + nops(64) + " @nop x))");
        Expect.malformed("(module(func" + TEN_BLOCKS + " @x block))");
        Expect.tooMuch("(module(func" + TEN_BLOCKS + " @block x))");
        Expect.tooMuch("(module(func(param" + SIX + " @i32))" + "(func)".repeat(4) + ")");
        // A function's id that is not there waits until all else is right, also within the limits.
        Expect.tooMuch("(module(func call $x" + nops(63) + " @nop))");
        Expect.tooMuch("(module(func call $x)" + "(func)".repeat(3) + "(@func))");
    }

    private static void aheadOfWhatStandsBehind() {
        Expect.sentence("(TOO MUCH ahead of what stands behind that token)");
        Expect.tooMuch("(module" + "(func)".repeat(4) + "(@func\"");
        Expect.tooMuch("(module(func(local" + SIX + " i32 i32 @i32(;");
        Expect.tooMuch("(module(func" + nops(64) + " @i32.const 4294967296");
        Expect.tooMuch("(module(func" + nops(64) + " @local.get $x");
        Expect.tooMuch("(module(func" + TEN_BLOCKS + "@(x");
        Expect.tooMuch("(module(func" + TEN_BLOCKS + "@(");
        Expect.tooMuch("(module(func i32.add" + nops(63) + " @drop");
    }
}
