/** The edges of promise 8: print. */
public final class EdgesOfPrintTest {
    private static final int LIMIT = 320;

    public static void main(String[] args) {
        withoutFunctions();
        functions();
        noParameters();
        allSlots();
        results();
        immediates();
        ints();
        longs();
        plainForm();
        fullText();
        oneTooMany();
        manyTooMany();
        throwingKeeps();
        textBecomes();
        Expect.finish();
    }

    private static void printed(String text, String due) {
        StackAssembler x = Expect.assembled(text);
        Expect.same("print of " + text, Expect.printThrows(x), false);
        Expect.same("print again of " + text, x.print(), due.length());
        Expect.same("what is printed of " + text, Expect.text(x), due);
        Expect.same("the character behind it", (int) x.character(due.length()), 0);
    }

    /** What is printed already, printed again. */
    private static void stays(String text) {
        printed(text, text);
    }

    private static void body(String instructions, String due) {
        printed("(module(func " + instructions + "))", "(module(func " + due + "))");
    }

    private static void withoutFunctions() {
        Expect.sentence("(module, for each function (func,");
        printed("( module ;;\n ) (; ;)", "(module)");
        StackAssembler x = new StackAssembler();
        Expect.same("print() of a new object", x.print(), 8);
        Expect.same("text", Expect.text(x), "(module)");
    }

    private static void functions() {
        Expect.sentence("and ); and ) at the end.");
        for (int many = 0; many <= 4; many++) {
            printed("(module" + named(many) + " )", "(module" + "(func)".repeat(many) + ")");
        }
    }

    private static String named(int many) {
        StringBuilder all = new StringBuilder();
        for (int f = 0; f < many; f++) {
            all.append(" ( func $f").append(f).append(" (param) (local) )");
        }
        return all.toString();
    }

    private static void noParameters() {
        Expect.sentence("then, if it has parameters, (param and the types, each with a blank before it, and ), "
                + "the result alike, locals alike");
        printed("(module(func(param)(param)))", "(module(func))");
        printed("(module(func(local)(local)))", "(module(func))");
        printed("(module(func(param)(local i32)))", "(module(func(local i32)))");
        printed("(module(func(param i64)(local)))", "(module(func(param i64)))");
        printed("(module(func(param)(result i32)(local)unreachable))", "(module(func(result i32) unreachable))");
    }

    private static void allSlots() {
        Expect.sentence("(param and the types, each with a blank before it, and ), the result alike, locals alike");
        for (int parameters = 1; parameters <= 6; parameters++) {
            for (int locals = 1; parameters + locals <= 8; locals++) {
                printed("(module(func" + "(param i32)".repeat(parameters) + "(local i64)".repeat(locals) + "))",
                        "(module(func(param" + " i32".repeat(parameters) + ")(local" + " i64".repeat(locals) + ")))");
            }
        }
        printed("(module(func(param $a i64)(param i32 i64)(result i64)(local i32)(local $b i64)i64.const 1))",
                "(module(func(param i64 i32 i64)(result i64)(local i32 i64) i64.const 1))");
        stays("(module(func(local i32 i64 i32 i64 i32 i64 i32 i64)))");
    }

    private static void results() {
        Expect.sentence("the result of a block as (result i32), with a blank before it)");
        body("block end loop end unreachable if end", "block end loop end unreachable if end");
        for (String word : new String[] {"block", "loop"}) {
            for (String type : new String[] {"i32", "i64"}) {
                body(word + " $a(result " + type + ")(unreachable)end $a(drop)",
                        word + " (result " + type + ") unreachable end drop");
            }
        }
        body("unreachable if(result i64)(unreachable)else(unreachable)end(drop)",
                "unreachable if (result i64) unreachable else unreachable end drop");
    }

    private static void immediates() {
        Expect.sentence("and one before its immediate (labels, functions and locals as digits");
        body("block $a br $a br 1 br 001 end", "block br 0 br 1 br 1 end");
        body("block $a" + " block".repeat(9) + "  br $a br 10 " + " end".repeat(10),
                "block" + " block".repeat(9) + " br 9 br 10" + " end".repeat(10));
        printed("(module(func $a call $d)(func call $a)(func)(func $d call 00002))",
                "(module(func call 3)(func call 0)(func)(func call 2))");
        printed("(module(func(param $x i32)(local" + " i64".repeat(6) + ")(local $y i32)(local.set $x(local.tee $y(local.get 0)))))",
                "(module(func(param i32)(local" + " i64".repeat(6) + " i32) local.get 0 local.tee 7 local.set 0))");
        body("unreachable br_if 0", "unreachable br_if 0");
    }

    private static void ints() {
        Expect.sentence("numbers as ints and longs, with - if they are below 0");
        number("i32.const", "-0", "0");
        number("i32.const", "+0", "0");
        number("i32.const", "4294967295", "-1");
        number("i32.const", "2147483647", "2147483647");
        number("i32.const", "2147483648", "-2147483648");
        number("i32.const", "-2147483648", "-2147483648");
        number("i32.const", "0007", "7");
        for (int power = 1, n = 0; n < 10; n++, power *= 10) {
            for (int one : new int[] {power - 1, power, power + 1, -power + 1, -power, -power - 1}) {
                number("i32.const", "" + one, "" + one);
            }
        }
    }

    private static void longs() {
        Expect.sentence("numbers as ints and longs, with - if they are below 0");
        number("i64.const", "18446744073709551615", "-1");
        number("i64.const", "9223372036854775807", "9223372036854775807");
        number("i64.const", "9223372036854775808", "-9223372036854775808");
        number("i64.const", "-9223372036854775808", "-9223372036854775808");
        number("i64.const", "4294967295", "4294967295");
        number("i64.const", "2147483648", "2147483648");
        long power = 1;
        for (int n = 0; n < 19; n++) {
            for (long one : new long[] {power - 1, power, power + 1, -power + 1, -power, -power - 1}) {
                number("i64.const", "" + one, "" + one);
            }
            power *= 10;
        }
    }

    private static void number(String word, String written, String due) {
        body(word + " " + written + " drop", word + " " + due + " drop");
    }

    private static void plainForm() {
        Expect.sentence("The text becomes that of the module, without comments, names and folded ones");
        printed(";; a\n(module (; b ;) (func $f (param $x i32) (result i32) (i32.add (local.get $x) (i32.const 1))) ;; c\n)",
                "(module(func(param i32)(result i32) local.get 0 i32.const 1 i32.add))");
        body("(drop(i32.mul(i32.const 1)(i32.sub(i32.const 2)(i32.const 3))))",
                "i32.const 1 i32.const 2 i32.const 3 i32.sub i32.mul drop");
    }

    /** Instructions of exactly so many characters, few enough for one function. */
    private static String filled(int length) {
        int brs = length / 5;
        while ((length - 5 * brs) % 4 != 0) {
            brs--;
        }
        return " br 0".repeat(brs) + " nop".repeat((length - 5 * brs) / 4);
    }

    /** What is printed with one character more than it was written with, and as what. */
    private static final String[][] GROWING = {
        {"(module(func i32.const 2147483648 return", "(module(func i32.const -2147483648 return"},
        {"(module(func i64.const 9223372036854775808 return", "(module(func i64.const -9223372036854775808 return"},
        {"(module(func loop(result i32) return end drop", "(module(func loop (result i32) return end drop"},
        {"(module(func(param i32)return", "(module(func(param i32) return"},
        {"(module(func)(func(local i64)return", "(module(func)(func(local i64) return"},
    };

    private static void fullText() {
        Expect.sentence("Answers how many characters it has.");
        stays("(module(func" + filled(LIMIT - 14) + "))");
        stays("(module(func" + filled(LIMIT - 15) + "))");
        for (String[] one : GROWING) {
            for (int length = LIMIT - 2; length < LIMIT; length++) {
                String rest = filled(length - one[0].length() - 2) + "))";
                Expect.same("the length as it is printed", (one[1] + rest).length(), length + 1);
                printed(one[0] + rest, one[1] + rest);
            }
        }
    }

    private static void oneTooMany() {
        Expect.sentence("UnsupportedOperationException: they would be more than 320.");
        for (String[] one : GROWING) {
            grown(one[0]);
        }
    }

    private static void manyTooMany() {
        Expect.sentence("UnsupportedOperationException: they would be more than 320.");
        throwing("(module(func" + " i64.const 9223372036854775808".repeat(9) + " return" + " br 0".repeat(5) + "))");
        grown("(module(func " + "block(result i32)(return)end(drop)".repeat(8));
        grown("(module" + "(func(param i32)return block(result i64)(return)end(return))".repeat(3) + "(func(local i32)return");
    }

    /** A full text that begins so. */
    private static void grown(String head) {
        throwing(head + filled(LIMIT - head.length() - 2) + "))");
    }

    private static void throwing(String text) {
        StackAssembler x = Expect.assembled(text);
        Expect.same("print throws for " + text, Expect.printThrows(x), true);
        Expect.same("text", Expect.text(x), text);
    }

    private static void throwingKeeps() {
        Expect.sentence("A call that throws changes nothing but PLACE (print() not that).");
        String text = GROWING[0][0] + filled(LIMIT - GROWING[0][0].length() - 2) + "))";
        StackAssembler x = Expect.typed("(module(func)(func nop drop))");
        Expect.same("assemble", Expect.outcome(x), "invalid 65");
        x.encode();
        Expect.write(x, text);
        x.assemble();
        String module = Expect.module(x);
        Expect.write(x, "another text");
        for (int n = 0; n < 2; n++) {
            Expect.same("print throws", Expect.printThrows(x), true);
            Expect.same("text", Expect.text(x), "another text");
            Expect.same("module", Expect.module(x), module);
            Expect.same("bytes", Expect.bytes(x), "0061736D01000000");
            Expect.same("place()", x.place(), 65);
        }
        Expect.same("type behind it", x.type('!'), true);
        Expect.same("text", Expect.text(x), "another text!");
        // Also when an earlier print, which did not throw, made the text.
        x = Expect.assembled("(module (func nop))");
        x.print();
        x.print();
        Expect.write(x, text);
        x.assemble();
        Expect.same("print throws", Expect.printThrows(x), true);
        Expect.same("text", Expect.text(x), text);
    }

    private static void textBecomes() {
        Expect.sentence("The text becomes that of the module");
        StackAssembler x = Expect.assembled("(module (func (nop)))");
        x.encode();
        String bytes = Expect.bytes(x);
        Expect.write(x, "y".repeat(LIMIT));
        Expect.same("print()", x.print(), 18);
        Expect.same("text", Expect.text(x), "(module(func nop))");
        Expect.same("character(18), of the full text before", (int) x.character(18), 0);
        Expect.same("character(319)", (int) x.character(LIMIT - 1), 0);
        Expect.same("bytes", Expect.bytes(x), bytes);
        Expect.same("place()", x.place(), 0);
        Expect.same("assemble", Expect.outcome(x), "fine 1");
        Expect.same("type behind it", x.type(Expect.eight(" (")), true);
        Expect.same("assemble", Expect.outcome(x), "malformed 19");
        Expect.same("print() while the text is another", x.print(), 18);
        Expect.same("text", Expect.text(x), "(module(func nop))");
        Expect.same("place()", x.place(), 19);
    }
}
