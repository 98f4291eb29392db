/** Promises 5 and 9: what makes a text TOO MUCH, and where. */
public final class LimitsTest {
    public static void main(String[] args) {
        functions();
        slots();
        instructions();
        depthOfBlocks();
        depthOfParentheses();
        firstInTheTextDecides();
        Expect.finish();
    }

    private static void functions() {
        Expect.fine("(module(func)(func)(func)(func))");
        Expect.tooMuch("(module(func)(func)(func)(func)(@func $f x");
        Expect.malformed("(module(func)(func)(func)(func)(@x))");
        Expect.malformed("(module(func)(func)(func)(func)@");
    }

    private static void slots() {
        String six = " i32 i64 i32 i64 i32 i64";
        Expect.fine("(module(func(param" + six + ")(local i32 i64)))");
        Expect.fine("(module(func(local" + six + " i32 i64)))");
        Expect.tooMuch("(module(func(param" + six + " @i64)))");
        Expect.tooMuch("(module(func(param" + six + ")(param $x @i32)))");
        Expect.fine("(module(func(param" + six + ")(param)))");
        Expect.malformed("(module(func(param" + six + ")(param $x@)))");
        Expect.malformed("(module(func(param $a i32)(param i64 i32 i64 i32 i64)(param @$a i32)))");
        Expect.tooMuch("(module(func(param" + six + ")(local i32 i32 @i32)))");
        Expect.tooMuch("(module(func(param" + six + ")(local i32)(local i32)(local $x @i32)))");
        Expect.tooMuch("(module(func(local" + six + " i32 i64 @i32)))");
        Expect.malformed("(module(func(param" + six + ")(local i32 i32 @x)))");
        Expect.fine("(module(func(param" + six + "))(func(param" + six + ")))");
    }

    private static void instructions() {
        Expect.fine("(module(func" + Expect.repeat(" nop", 64) + "))");
        Expect.tooMuch("(module(func" + Expect.repeat(" nop", 64) + " @nop))");
        Expect.tooMuch("(module(func" + Expect.repeat(" nop", 32) + ")(func" + Expect.repeat(" nop", 32) + " @nop))");
        Expect.tooMuch("(module(func" + Expect.repeat(" nop", 64) + " @block end))");
        Expect.tooMuch("(module(func block" + Expect.repeat(" nop", 63) + " @end))");
        Expect.fine("(module(func block" + Expect.repeat(" nop", 62) + " end))");
        Expect.tooMuch("(module(func i32.const 1 if" + Expect.repeat(" nop", 62) + " @else end))");
        Expect.tooMuch("(module(func" + Expect.repeat(" nop", 64) + " @i32.const x"); 
        Expect.tooMuch("(module(func" + Expect.repeat(" nop", 64) + " @br $a"); 
        Expect.tooMuch("(module(func" + Expect.repeat(" nop", 64) + "(nop@)))");
        Expect.tooMuch("(module(func" + Expect.repeat(" nop", 62) + "(nop(nop)(nop)@)))");
        Expect.tooMuch("(module(func" + Expect.repeat(" nop", 62) + "(nop(nop)(nop)(nop@)))");
        Expect.fine("(module(func" + Expect.repeat(" nop", 61) + "(nop(nop)(nop))))");
        Expect.malformed("(module(func" + Expect.repeat(" nop", 64) + "(@x)))");
        Expect.malformed("(module(func" + Expect.repeat(" nop", 64) + "(br @$a)))");
        Expect.malformed("(module(func" + Expect.repeat(" nop", 64) + " @end))");
        Expect.malformed("(module(func" + Expect.repeat(" nop", 64) + " @else))");
        Expect.malformed("(module(func call @$x" + Expect.repeat(" nop", 63) + "))");
        Expect.tooMuch("(module(func call $x" + Expect.repeat(" nop", 63) + " @nop))");
    }

    private static void depthOfBlocks() {
        Expect.fine("(module(func" + Expect.repeat(" block", 10) + Expect.repeat(" end", 10) + "))");
        Expect.tooMuch("(module(func" + Expect.repeat(" block", 10) + " @block" + Expect.repeat(" end", 11) + "))");
        Expect.tooMuch("(module(func" + Expect.repeat(" loop", 10) + " @if x");
        Expect.tooMuch("(module(func" + Expect.repeat(" loop", 10) + " @loop $a x");
        Expect.tooMuch("(module(func" + Expect.repeat(" block", 10) + "@(result i32)x");
        Expect.tooMuch("(module(func" + Expect.repeat(" block", 10) + "@(nop)x");
        Expect.tooMuch("(module(func" + Expect.repeat(" block", 10) + " nop @()x");
        Expect.fine("(module(func" + Expect.repeat(" block", 9) + "(nop)" + Expect.repeat(" end", 9) + "))");
        Expect.fine("(module(func" + Expect.repeat(" block", 9) + "(result i32)unreachable end unreachable"
                + Expect.repeat(" end", 8) + "))");
        Expect.fine("(module(func" + Expect.repeat(" block", 10) + Expect.repeat(" end", 10) + " block end))");
    }

    private static void depthOfParentheses() {
        Expect.fine("(module(func" + Expect.repeat("(nop", 10) + Expect.repeat(")", 12));
        Expect.tooMuch("(module(func" + Expect.repeat("(nop", 10) + "@(nop" + Expect.repeat(")", 13));
        Expect.tooMuch("(module(func" + Expect.repeat("(nop", 10) + "@(x");
        Expect.malformed("(module(func" + Expect.repeat("(nop", 10) + ")@x");
        Expect.malformed("(module(func" + Expect.repeat("(nop", 9) + "(i32.const @(nop");
        Expect.tooMuch("(module(func block loop" + Expect.repeat("(nop", 8) + "@(nop");
        Expect.fine("(module(func block loop" + Expect.repeat("(nop", 8) + Expect.repeat(")", 8) + " end end))");
    }

    private static void firstInTheTextDecides() {
        Expect.malformed("(module(func @x)(func)(func)(func)(func))");
        Expect.tooMuch("(module(func)(func)(func)(func)(@func x))");
        Expect.tooMuch("(module(func(param i32 i32 i32 i32 i32 i32 @i32 x)))");
        Expect.tooMuch("(module(func i32.add)(func)(func)(func)(@func))");
    }
}
