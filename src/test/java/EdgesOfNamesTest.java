/** The edges of promise 5 that lie in ids: those that are there twice, or not there, and labels. */
public final class EdgesOfNamesTest {
    public static void main(String[] args) {
        shortestName();
        functionsTwice();
        slotsTwice();
        sameElsewhere();
        namesBehindElseAndEnd();
        noNameBehindElseAndEnd();
        nearestLabel();
        missingSlots();
        missingLabels();
        missingFunctions();
        firstMissingFunction();
        labelsAsNumbers();
        labelsThatAreNotThere();
        noneOrMore();
        optionalParts();
        Expect.finish();
    }

    private static void shortestName() {
        Expect.sentence("id = a word of $ and one or more other characters.");
        Expect.fine("(module(func $a(param $b i32)(local $c i32)block $d end $d local.get $b call $a local.get $b"
                + " local.set $c))");
        Expect.malformed("(module(func @$))");
        Expect.malformed("(module(func(param @$ i32)))");
        Expect.malformed("(module(func(local @$ i32)))");
        Expect.malformed("(module(func block @$ end))");
        Expect.malformed("(module(func block $d end @$))");
        Expect.malformed("(module(func unreachable if $d else @$ end))");
        Expect.malformed("(module(func call @$))");
        Expect.malformed("(module(func block $d br @$ end))");
        Expect.malformed("(module(func local.get @$))");
        Expect.malformed("(module(func @a))");
        Expect.malformed("(module(func(param @a$ i32)))");
    }

    private static void functionsTwice() {
        Expect.sentence("no two functions, and no two of one function's parameters and locals, have the same "
                + "(a second one is WRONG at its token).");
        Expect.malformed("(module(func $a)(func @$a))");
        Expect.malformed("(module(func $a)(func $b)(func)(func @$a))");
        Expect.malformed("(module(func $a)(func $b)(func @$b x");
        Expect.malformed("(module(func)(func $a)(func @$a))");
        Expect.fine("(module(func $a)(func $A)(func $aa)(func $a.))");
        Expect.fine("(module(func)(func)(func $a)(func))");
    }

    private static void slotsTwice() {
        Expect.sentence("no two of one function's parameters and locals, have the same (a second one is WRONG at its token).");
        Expect.malformed("(module(func(param $x i32)(param @$x i32)))");
        Expect.malformed("(module(func(param $x i32)(param i32)(param @$x i64)))");
        Expect.malformed("(module(func(param $x i32)(result i32)(local @$x i32)))");
        Expect.malformed("(module(func(local $x i32)(local @$x i32)))");
        Expect.malformed("(module(func(local i32)(local $y i32)(local $x i32)(local @$y i32)))");
        Expect.malformed("(module(func(local" + " i32".repeat(7) + ")(local $x i32)(local @$x i32)))");
        Expect.malformed("(module(func(param" + " i32".repeat(5) + ")(param $x i32)(param @$x i32)))");
        Expect.fine("(module(func(param $x i32)(param $xx i32)(param $X i32)(local $y i32)(local $x. i32)))");
    }

    private static void sameElsewhere() {
        Expect.sentence("An id names a function, or a parameter or local of its function");
        Expect.fine("(module(func $a(param $a i32)block $a end)(func(param $a i64)(local $b i32))(func $b(local $b i32)))");
        Expect.fine("(module(func block $a end block $a block $a end end))");
        StackAssembler x = Expect.assembled("(module(func(param $x i64))(func(local i32)(local $x i64)local.get $x drop))");
        Expect.same("the local of its function", x.immediate(1, 0), 1L);
        Expect.malformed("(module(func(param $x i64))(func(param i64)local.get @$x drop))");
        Expect.malformed("(module(func(param i64)local.get @$x drop)(func(param $x i64)))");
    }

    private static void namesBehindElseAndEnd() {
        Expect.sentence("An id behind else or end is that of its block");
        Expect.fine("(module(func block $a end $a loop $b end $b unreachable if $c else $c end $c))");
        Expect.fine("(module(func block $a end unreachable if $c else end if $c else $c end if $c else end $c))");
        Expect.fine("(module(func block $a block $b end $b end $a))");
        Expect.malformed("(module(func block $a end @$b))");
        Expect.malformed("(module(func block $a end @$aa))");
        Expect.malformed("(module(func block $aa end @$a))");
        Expect.malformed("(module(func block $a block $b end @$a end))");
        Expect.malformed("(module(func block $a block $b end $b end @$b))");
        Expect.malformed("(module(func unreachable if $a else @$b end))");
        Expect.malformed("(module(func unreachable if $a else $a end @$b))");
        Expect.malformed("(module(func block $a end $a @$a))");
        Expect.malformed("(module(func unreachable if $a else $a @$a end))");
        Expect.malformed("(module(func block $a nop @$a end))");
        Expect.malformed("(module(func block $a end nop @$a))");
        Expect.malformed("(module(func block $a end(nop)@$a))");
    }

    private static void noNameBehindElseAndEnd() {
        Expect.sentence("(which has one then; else it is WRONG).");
        Expect.malformed("(module(func block end @$a))");
        Expect.malformed("(module(func loop end @$a))");
        Expect.malformed("(module(func unreachable if end @$a))");
        Expect.malformed("(module(func unreachable if else @$a end))");
        Expect.malformed("(module(func unreachable if else end @$a))");
        Expect.malformed("(module(func block $a block end @$a end))");
        Expect.malformed("(module(func $f block end @$f))");
        Expect.malformed("(module(func block $a end block end @$a))");
    }

    private static void nearestLabel() {
        Expect.sentence("As a LABEL an id means the block, loop or if around, with this id, that is nearest: "
                + "0 the innermost one, and so on");
        label("block $a br $a end", 1, 0);
        label("loop $a br $a end", 1, 0);
        label("unreachable if $a br $a end", 2, 0);
        label("unreachable if $a else br $a end", 3, 0);
        label("block $a block br $a end end", 2, 1);
        label("block $a block $a br $a end end", 2, 0);
        label("block $a block $a end br $a end", 3, 0);
        label("block $a block $b block $a block $c br $a end end end end", 4, 1);
        label("block $a block $b block $a block $c br $b end end end end", 4, 2);
        label("block $a" + " block".repeat(9) + " br $a" + " end".repeat(10), 10, 9);
        label("block $a block(nop(br $a))end end", 2, 1);
        label("block $a loop unreachable br_if $a end end", 3, 1);
    }

    private static void label(String body, int k, long due) {
        StackAssembler x = Expect.assembled("(module(func " + body + "))");
        Expect.same("the label in " + body, x.immediate(0, k), due);
    }

    private static void missingSlots() {
        Expect.sentence("An id of a parameter, local or label that is not there is WRONG at its token.");
        for (String word : new String[] {"local.get", "local.set", "local.tee"}) {
            Expect.malformed("(module(func " + word + " @$x))");
            Expect.malformed("(module(func(" + word + " @$x)))");
            Expect.malformed("(module(func $x(param $y i32)block $x " + word + " @$x end)(func(param $x i32)))");
            Expect.malformed("(module(func(param $xx i32)(local $y i32) nop " + word + " @$x))");
            Expect.malformed("(module(func(param $x i32)(local $y i32) nop " + word + " @$xx))");
        }
    }

    private static void missingLabels() {
        Expect.sentence("An id of a parameter, local or label that is not there is WRONG at its token.");
        for (String word : new String[] {"br", "br_if"}) {
            Expect.malformed("(module(func " + word + " @$a))");
            Expect.malformed("(module(func(" + word + " @$a)))");
            Expect.malformed("(module(func $a(param $a i32) " + word + " @$a))");
            Expect.malformed("(module(func block $a end " + word + " @$a))");
            Expect.malformed("(module(func block $a end block " + word + " @$a end))");
            Expect.malformed("(module(func " + word + " @$a block $a end))");
            Expect.malformed("(module(func block $a nop end)(func block " + word + " @$a end))");
            Expect.malformed("(module(func block $aa block $b " + word + " @$a end end))");
        }
    }

    private static void missingFunctions() {
        Expect.sentence("(a function's id that is not there: the first such, when all else is right, also within the limits)");
        Expect.malformed("(module(func call @$a))");
        Expect.malformed("(module(func(call @$a)))");
        Expect.malformed("(module(func $b(param $a i32)block $a call @$a end))");
        Expect.malformed("(module(func $aa call @$a)(func $b))");
        Expect.malformed("(module(func i32.add call @$a drop))");
        Expect.fine("(module(func call $a)(func)(func)(func $a call $a))");
        Expect.malformed("(module(func call $a)@");
        Expect.malformed("(module(func call $a) @x)");
        Expect.malformed("(module(func call $a)) @x");
        Expect.malformed("(module(func call $a local.get @$x))");
        Expect.malformed("(module(func $b call $a)(func @$b))");
        Expect.tooMuch("(module(func call $a)(func)(func)(func)(@func))");
        Expect.tooMuch("(module(func call $a(nop(nop" + "(nop".repeat(8) + "@(nop");
        Expect.tooMuch("(module(func call $a)(func(local" + " i32".repeat(8) + " @i32)))");
        Expect.tooMuch("(module(func call $a" + " nop".repeat(63) + " @nop))");
        Expect.malformed("(module(func call @$a" + " nop".repeat(63) + "))");
    }

    private static void firstMissingFunction() {
        Expect.sentence("(a function's id that is not there: the first such");
        Expect.malformed("(module(func call @$a call $b))");
        Expect.malformed("(module(func $a call $a call @$b call $c)(func call $d))");
        Expect.malformed("(module(func $a)(func call $a)(func call @$b)(func call $c))");
        Expect.malformed("(module(func(call @$b(call $c(call $d)))))");
        Expect.malformed("(module(func $a(call $a(call @$c(call $d)))))");
    }

    private static void labelsAsNumbers() {
        Expect.sentence("a number is the label itself (one that is as great as there are blocks around is the function).");
        for (int blocks = 0; blocks <= 10; blocks++) {
            for (int label = 0; label <= blocks; label++) {
                StackAssembler x = Expect.assembled("(module(func" + " block".repeat(blocks) + " br " + label
                        + " end".repeat(blocks) + "))");
                Expect.same("br " + label + " in " + blocks + " blocks", x.immediate(0, blocks), (long) label);
            }
        }
        // The function's label has its result, where that of the block around has none.
        Expect.fine("(module(func(result i64)block i64.const 1 br 1 end unreachable))");
        Expect.invalid("(module(func(result i64)block br 1 end unreachable))", 1);
        Expect.fine("(module(func(result i64)loop unreachable if i64.const 1 br 2 end end unreachable))");
        Expect.fine("(module(func(result i64)i64.const 1 br 0))");
        Expect.invalid("(module(func(result i64)i32.const 1 br 0))", 1);
    }

    private static void labelsThatAreNotThere() {
        Expect.sentence("A label, local or function that is not there is INVALID.");
        for (int blocks = 0; blocks <= 10; blocks++) {
            String opened = "(module(func" + " block".repeat(blocks) + " ";
            String closed = " end".repeat(blocks) + "))";
            Expect.invalid(opened + "br " + (blocks + 1) + closed, blocks);
            Expect.invalid(opened + "br " + (blocks + 2) + closed, blocks);
            Expect.invalid(opened + "i32.const 1 br_if " + (blocks + 1) + closed, blocks + 1);
            Expect.invalid(opened + "unreachable br " + (blocks + 1) + closed, blocks + 1);
            Expect.invalid(opened + "unreachable br_if " + (blocks + 1) + closed, blocks + 1);
        }
        Expect.invalid("(module(func block end br 1))", 2);
        Expect.invalid("(module(func br 4294967295))", 0);
    }

    private static void noneOrMore() {
        Expect.sentence("(.. means any number, none, too (so of types behind param)");
        Expect.fine("(module)");
        Expect.fine("(module(func))");
        Expect.fine("(module(func(param)))");
        Expect.fine("(module(func(param)(param)(param i32)(param)(local)(local)(local i32)(local)))");
        Expect.fine("(module(func" + "(param)".repeat(20) + "(local)".repeat(20) + "))");
        Expect.malformed("(module(func(param $x @)))");
        Expect.malformed("(module(func(param $x i32 @i32)))");
        Expect.malformed("(module(func(local $x @)))");
        Expect.malformed("(module(func(local $x i32 @i32)))");
        Expect.malformed("(module(func(local i32 @$x i32)))");
        Expect.fine("(module(func block end loop end unreachable if end unreachable if else end))");
        Expect.fine("(module(func(nop)(nop(nop))(nop(nop)(nop)(nop))))");
    }

    private static void optionalParts() {
        Expect.sentence("? one or none");
        Expect.fine("(module(func $f(result i32)unreachable))");
        Expect.malformed("(module(func $f @$g))");
        Expect.malformed("(module(func(result i32)(@result i32)))");
        Expect.malformed("(module(func(param)@$f))");
        Expect.malformed("(module(func block $a @$b end))");
        Expect.malformed("(module(func block $a(result i32)@$b end))");
        Expect.malformed("(module(func block(result i32)(@result i32)end))");
        Expect.malformed("(module(func block nop(@result i32)end))");
        Expect.malformed("(module(func unreachable if else(@result i32)end))");
        Expect.malformed("(module(func unreachable if else end @else end))");
        Expect.malformed("(module(func unreachable if else nop @else end))");
    }
}
