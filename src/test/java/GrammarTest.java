/** Promises 5 and 9: what makes a text MALFORMED, and where. */
public final class GrammarTest {
    public static void main(String[] args) {
        modules();
        heads();
        declarations();
        blocks();
        folded();
        numbers();
        indexes();
        names();
        missingFunctions();
        Expect.finish();
    }

    private static void modules() {
        Expect.malformed("@module");
        Expect.malformed("@)");
        Expect.malformed("(@(module))");
        Expect.malformed("(@func)");
        Expect.malformed("(module @$m)");
        Expect.malformed("(module @func)");
        Expect.malformed("(module(@module))");
        Expect.malformed("(module(@))");
        Expect.malformed("(module(@nop))");
    }

    private static void heads() {
        Expect.fine("(module(func $f(param)(param i32)(param $x i64)(result i32)(local)(local $y i32)(i32.const 1)))");
        Expect.malformed("(module(func(param i32)@$f))");
        Expect.malformed("(module(func $f @$g))");
        Expect.malformed("(module(func nop @$f))");
        Expect.malformed("(module(func(result i32)(@param i32)))");
        Expect.malformed("(module(func(result i32)(@result i32)))");
        Expect.malformed("(module(func(local)(@result i32)))");
        Expect.malformed("(module(func(local)(@param)))");
        Expect.malformed("(module(func nop(@param)))");
        Expect.malformed("(module(func nop(@result i32)))");
        Expect.malformed("(module(func(nop)(@local)))");
        Expect.malformed("(module(func block end(@local)))");
        Expect.malformed("(module(func @param))");
        Expect.malformed("(module(func(@i32)))");
        Expect.malformed("(module(func(@)))");
        Expect.malformed("(module(func(@func)))");
        Expect.malformed("(module(func @i32))");
    }

    private static void declarations() {
        Expect.malformed("(module(func(param $x@)))");
        Expect.malformed("(module(func(param $x i32 @i32)))");
        Expect.malformed("(module(func(param $x @$y i32)))");
        Expect.malformed("(module(func(param i32 @$x)))");
        Expect.malformed("(module(func(param @f32)))");
        Expect.malformed("(module(func(param @(param))))");
        Expect.malformed("(module(func(param i32 @(nop))))");
        Expect.malformed("(module(func(param @$ i32)))");
        Expect.malformed("(module(func(local $x@)))");
        Expect.malformed("(module(func(local $x i64 @i32)))");
        Expect.malformed("(module(func(local i64 @nop)))");
        Expect.malformed("(module(func(result@)))");
        Expect.malformed("(module(func(result @$r i32)))");
        Expect.malformed("(module(func(result i32 @i32)))");
        Expect.malformed("(module(func(result @(i32))))");
    }

    private static void blocks() {
        Expect.fine("(module(func block $a loop $b nop end $b end $a))");
        Expect.fine("(module(func i32.const 1 if $a nop else $a nop end $a))");
        Expect.fine("(module(func i32.const 1 if $a nop else nop end))");
        Expect.fine("(module(func block $a(result i32)i32.const 1 end drop))");
        Expect.malformed("(module(func block@))");
        Expect.malformed("(module(func @end))");
        Expect.malformed("(module(func @else))");
        Expect.malformed("(module(func block @else end))");
        Expect.malformed("(module(func loop @else end))");
        Expect.malformed("(module(func i32.const 1 if else @else end))");
        Expect.malformed("(module(func i32.const 1 if block @else end end))");
        Expect.malformed("(module(func block end @end))");
        Expect.malformed("(module(func block end @$a))");
        Expect.malformed("(module(func block $a end block end @$a))");
        Expect.malformed("(module(func block $a end block br @$a end))");
        Expect.malformed("(module(func block $a end @$b))");
        Expect.malformed("(module(func block $a end @$aa))");
        Expect.malformed("(module(func block $aa end @$a))");
        Expect.malformed("(module(func block $a end $a @$a))");
        Expect.malformed("(module(func block $a block end @$a end))");
        Expect.malformed("(module(func i32.const 1 if else @$a end))");
        Expect.malformed("(module(func i32.const 1 if $a else @$b end))");
        Expect.malformed("(module(func i32.const 1 if $a else end @$b))");
        Expect.malformed("(module(func i32.const 1 if $a else nop @$a end))");
        Expect.malformed("(module(func i32.const 1 if else (@result i32) end))");
        Expect.malformed("(module(func block $a @$b end))");
        Expect.malformed("(module(func block (result i32) @$a end))");
        Expect.malformed("(module(func block (result i32)(@result i32) end))");
        Expect.malformed("(module(func block (@param i32) end))");
        Expect.malformed("(module(func block (@local i32) end))");
        Expect.malformed("(module(func block nop (@result i32) end))");
        Expect.malformed("(module(func block (result@) end))");
    }

    private static void folded() {
        StackAssembler x = Expect.assembled(
                "(module(func(i32.sub(i32.const 1)(i32.mul(i32.const 2)(i32.const 3)))(drop)))");
        Expect.same("the order", Expect.module(x), "func 0 0 0 6 41:1 41:2 41:3 6c:0 6b:0 1a:0\n");
        x = Expect.assembled("(module(func(drop(i32.const 1(nop)))))");
        Expect.same("the order", Expect.module(x), "func 0 0 0 3 1:0 41:1 1a:0\n");
        Expect.malformed("(module(func(@block)))");
        Expect.malformed("(module(func(@loop)))");
        Expect.malformed("(module(func(@if)))");
        Expect.malformed("(module(func block(@end)))");
        Expect.malformed("(module(func i32.const 1 if(@else)end))");
        Expect.malformed("(module(func(nop @nop)))");
        Expect.malformed("(module(func(drop(i32.const 1) @nop)))");
        Expect.malformed("(module(func(drop(@result i32))))");
        Expect.malformed("(module(func(i32.const@)))");
        Expect.malformed("(module(func(i32.const @(nop))))");
        Expect.malformed("(module(func(i32.const 1 @2)))");
        Expect.malformed("(module(func(@(nop))))");
        Expect.malformed("(module(func(nop @end)))");
        Expect.malformed("(module(func(nop)@");
    }

    private static void numbers() {
        number("i32.const", "-2147483648", -2147483648L);
        number("i32.const", "2147483647", 2147483647L);
        number("i32.const", "2147483648", -2147483648L);
        number("i32.const", "4294967295", -1L);
        number("i32.const", "+4294967295", -1L);
        number("i32.const", "-0", 0L);
        number("i32.const", "+0", 0L);
        number("i32.const", "-00000000000000000000000000000007", -7L);
        number("i64.const", "-9223372036854775808", Long.MIN_VALUE);
        number("i64.const", "9223372036854775807", Long.MAX_VALUE);
        number("i64.const", "9223372036854775808", Long.MIN_VALUE);
        number("i64.const", "18446744073709551615", -1L);
        number("i64.const", "+18446744073709551610", -6L);
        number("i64.const", "4294967295", 4294967295L);
        number("i64.const", "000000000000000000000018446744073709551615", -1L);
        String[] wrongInts = {"-2147483649", "4294967296", "+4294967296", "18446744073709551616",
            "-18446744073709551615", "18446744073709551617", "99999999999999999999999999"};
        for (String wrong : wrongInts) {
            Expect.malformed("(module(func i32.const @" + wrong + " drop))");
        }
        String[] wrongLongs = {"-9223372036854775809", "18446744073709551616", "18446744073709551619",
            "18446744073709551620", "-18446744073709551615", "184467440737095516150", "99999999999999999999"};
        for (String wrong : wrongLongs) {
            Expect.malformed("(module(func i64.const @" + wrong + " drop))");
        }
        String[] wrongWords = {"+", "-", "+-1", "--1", "1-", "0x1", "1_0", "1.", "$a", "nop", "- 1", "/", ":"};
        for (String wrong : wrongWords) {
            Expect.malformed("(module(func i32.const @" + wrong + " drop))");
            Expect.malformed("(module(func (i64.const @" + wrong + ") drop))");
        }
    }

    private static void number(String word, String written, long due) {
        StackAssembler x = Expect.assembled("(module(func " + word + " " + written + " drop))");
        Expect.same(word + " " + written, x.immediate(0, 0), due);
        x = Expect.assembled("(module(func(drop(" + word + " " + written + "))))");
        Expect.same("folded " + word + " " + written, x.immediate(0, 0), due);
    }

    private static void indexes() {
        StackAssembler x = Expect.assembled("(module(func(local i32 i64)local.get 0000000000000000000000001 drop br 00))");
        Expect.same("local.get 0..01", x.immediate(0, 0), 1L);
        Expect.invalid("(module(func call 4294967295))", 0);
        Expect.invalid("(module(func br 4294967295))", 0);
        Expect.invalid("(module(func nop local.set 00004294967295))", 1);
        for (String word : new String[] {"br", "br_if", "call", "local.get", "local.set", "local.tee"}) {
            for (String wrong : new String[] {"4294967296", "18446744073709551616", "-1", "+1", "-0", "x", "$", ")"}) {
                Expect.malformed("(module(func " + word + " @" + wrong + "))");
            }
        }
    }

    private static void names() {
        Expect.malformed("(module(func $a)(func $b)(func @$a))");
        Expect.malformed("(module(func(param $x i32)(param @$x i32)))");
        Expect.malformed("(module(func(param $x i32)(local @$x i64)))");
        Expect.malformed("(module(func(local $x i32)(local $y i64)(local @$x i64)))");
        Expect.fine("(module(func $x(param $x i32)block $x local.get $x drop end)(func(param $x i64)))");
        Expect.malformed("(module(func local.get @$x))");
        Expect.malformed("(module(func(param $x i32))(func local.get @$x drop))");
        Expect.malformed("(module(func $f br @$f))");
        Expect.malformed("(module(func block $a end br @$a))");
        Expect.malformed("(module(func(param $x i32)(br_if @$x)))");
        Expect.malformed("(module(func block $a local.set @$a end))");
        StackAssembler x = Expect.assembled("(module(func block $a block $b block $a br $a(br $b)br 3 end end end))");
        Expect.same("labels", Expect.module(x), "func 0 0 0 9 2:0 2:0 2:0 c:0 c:1 c:3 b:0 b:0 b:0\n");
        x = Expect.assembled("(module(func i32.const 1 if $a br $a else loop br $a end end))");
        Expect.same("label behind else", x.immediate(0, 5), 1L);
        x = Expect.assembled("(module(func(param i32)(param $b i64)(local $c i32)local.get $b drop local.get $c drop))");
        Expect.same("a parameter's name", x.immediate(0, 0), 1L);
        Expect.same("a local's name", x.immediate(0, 2), 2L);
    }

    private static void missingFunctions() {
        Expect.malformed("(module(func call @$b)(func $a))");
        Expect.malformed("(module(func call @$b call $c)(func $a call $a))");
        Expect.malformed("(module(func(call @$c(call $b)))(func $a))");
        Expect.malformed("(module(func(call $a(call @$b))(call $c))(func $a))");
        Expect.malformed("(module(func call $b)@");
        Expect.malformed("(module(func call $b)(func @x))");
        Expect.tooMuch("(module(func call $b)(func)(func)(func)(@func))");
        Expect.malformed("(module(func i32.add call @$b))");
        StackAssembler x = Expect.assembled("(module(func $a call $b(call $a))(func $b call 0 call $b))");
        Expect.same("calls", Expect.module(x), "func 0 0 0 2 10:1 10:0\nfunc 0 0 0 2 10:0 10:1\n");
    }
}
