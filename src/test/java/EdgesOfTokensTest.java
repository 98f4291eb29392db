/** The edges of promise 5 that lie in the tokens: words, comments, BAD tokens, the END token. */
public final class EdgesOfTokensTest {
    public static void main(String[] args) {
        longestTokens();
        wordCharacters();
        gaps();
        lineComments();
        blockComments();
        commentsInside();
        openComments();
        shortestOpenComment();
        otherCharacters();
        semicolonAlone();
        endToken();
        endOfFullText();
        Expect.finish();
    }

    private static void longestTokens() {
        Expect.sentence("TOKENS, each as long as can be");
        Expect.malformed("(module(func @nopnop))");
        Expect.malformed("(module(func @nop.))");
        Expect.malformed("(module(func @i32.const1 drop))");
        Expect.malformed("(module(func i32.const @1drop))");
        Expect.malformed("(module(func block @end$a))");
        Expect.malformed("(@module$)");
        Expect.malformed("(module(@func$f))");
        Expect.malformed("(module(func(param @i32i64)))");
        Expect.fine("(module(func(nop)nop(nop)(nop)nop))");
        Expect.fine("(module(func $f(param $x i32)(local i64)nop))");
        String longest = "$" + "a".repeat(304);
        Expect.fine("(module(func " + longest + "))");
        String half = "$" + "b".repeat(140);
        Expect.fine("(module(func " + half + " call " + half + "))");
        Expect.malformed("(module(func " + half + " call @" + half + "b))");
        Expect.malformed("(module(func " + half + "b call @" + half + "))");
    }

    private static void wordCharacters() {
        Expect.sentence("WORDS, rows of letters, digits and ! # $ % & ' * + - . / : < = > ? @ \\ ^ _ ` | ~.");
        String marks = "!#$%&'*+-./:<=>?@\\^_`|~";
        for (char c = '!'; c <= '~'; c++) {
            boolean alphanumeric = c >= '0' && c <= '9' || c >= 'A' && c <= 'Z' || c >= 'a' && c <= 'z';
            if (alphanumeric || marks.indexOf(c) >= 0) {
                StackAssembler x = Expect.assembled("(module(func call $x" + c + "y)(func $x" + c + "y))");
                Expect.same("the function with " + c + " in its name", x.immediate(0, 0), 1L);
            }
        }
    }

    private static void gaps() {
        Expect.sentence("Between them: blanks, LFs, COMMENTS");
        Expect.fine("\n\n (\n module (\nfunc\n\n nop (\nnop\n) ) )\n\n ", 1);
        Expect.fine("(;;)((;;)module(;;)((;;)func(;;)$f(;;)nop(;;))(;;))(;;)", 1);
        Expect.fine(";;\n( ;;\nmodule;;\n( ;;\nfunc;;\n$f;;\nnop;;\n);;\n);;\n", 1);
        Expect.fine("(module(func i32.const(;;)1(;;)drop br;;\n0))");
        Expect.malformed("(module(func i32.const @-");
        Expect.malformed("(module(func i32.const @-(;;)1 drop))");
        Expect.malformed("(module(func @no(;;)p))");
    }

    private static void lineComments() {
        Expect.sentence("COMMENTS ;; up to the LF or the end");
        Expect.fine(";;\n(module)");
        Expect.fine("(module);;");
        Expect.fine("(module);;;");
        Expect.fine("(module);; to the end (; x");
        Expect.fine("(module;; ) ) ( \" (;\n)");
        Expect.fine("(module;;\n\n;;\n)");
        Expect.fine("(module(func nop;;\nnop;;x\n))");
        Expect.malformed("(module;;\n@x)");
        Expect.malformed("(module;; )@");
        Expect.malformed(";;(module)@");
        Expect.malformed("(module;; (;\n@;))");
    }

    private static void blockComments() {
        Expect.sentence("and (; up to ;)");
        Expect.fine("(;;)(module)");
        Expect.fine("(;;;)(module)");
        Expect.fine("(;;;;)(module)");
        Expect.fine("(;);)(module)");
        Expect.fine("(; ) ( \" , ; ;; \n ;)(module)");
        Expect.fine("(; ;;;)(module)");
        Expect.fine("(module)(; x ;)");
        Expect.malformed("(; x ;)@;)(module)");
        Expect.malformed("(;;)@)(module)");
        Expect.malformed("(module (; ;; ;)@x\n)");
    }

    private static void commentsInside() {
        Expect.sentence("with such ones inside.");
        Expect.fine("(;(;;);)(module)");
        Expect.fine("(;(;;)(;;);)(module)");
        Expect.fine("(; a (; b (; c ;) d ;) e ;)(module)");
        Expect.fine("(;".repeat(70) + ";)".repeat(70) + "(module)");
        Expect.fine("(module)" + "(;".repeat(78) + ";)".repeat(78));
        Expect.fine("(;(;);;);)(module)");
        Expect.malformed("(;(;;);)@;)(module)");
        Expect.malformed("@(;(;;)(module)");
        Expect.malformed("@(;(;;)(;;)(module)");
        Expect.malformed("@" + "(;".repeat(70) + ";)".repeat(69) + "(module)");
    }

    private static void openComments() {
        Expect.sentence("An opening (; of a comment that does not end");
        Expect.malformed("@(;");
        Expect.malformed("@(;;");
        Expect.malformed("@(;;\nmodule)");
        Expect.malformed("@(; (module)");
        Expect.malformed("  @(; ; )");
        Expect.malformed("(module @(;)");
        Expect.malformed("(module)@(;");
        Expect.malformed("(module)(;;)@(; ;");
        Expect.malformed("(module(func i32.const @(; 1 drop))");
        Expect.malformed("(module(func" + " block".repeat(10) + "@(; )");
        Expect.malformed("(module)" + " ".repeat(310) + "@(;");
        Expect.fine("(module)" + " ".repeat(308) + "(;;)");
    }

    private static void shortestOpenComment() {
        Expect.sentence("(its ; closes nothing, so \"(;)\" is one)");
        Expect.malformed("@(;)");
        Expect.malformed("@(;)(module)");
        Expect.malformed("(module@(;))");
        Expect.malformed("(module)@(;)");
        Expect.malformed("@(;(;);)(module)");
        Expect.fine("(;(;););)(module)");
        Expect.fine("(;);)(module(;);))");
    }

    private static void otherCharacters() {
        Expect.sentence("and each other character (a ; alone, too), are BAD tokens, which begin there.");
        for (String bad : new String[] {"\"", ",", "[", "]", "{", "}"}) {
            Expect.malformed("@" + bad);
            Expect.malformed("@" + bad + "(module)");
            Expect.malformed("(@" + bad + "module)");
            Expect.malformed("(module @" + bad + ")");
            Expect.malformed("(module(func $f@" + bad + "))");
            Expect.malformed("(module(func nop@" + bad + "))");
            Expect.malformed("(module(func local.get @" + bad + "0))");
            Expect.malformed("(module(func i32.const 1@" + bad + " drop))");
            Expect.malformed("(module(func(result i32@" + bad + ")))");
            Expect.malformed("(module)@" + bad);
        }
    }

    private static void semicolonAlone() {
        Expect.sentence("(a ; alone, too)");
        Expect.malformed("@;");
        Expect.malformed("@; ;(module)");
        Expect.malformed("(module@;)");
        Expect.malformed("(module @;\n;)");
        Expect.malformed("(module(func nop@;nop))");
        Expect.malformed("(module)@;");
        Expect.malformed("(module(func( @;nop;)))");
    }

    private static void endToken() {
        Expect.sentence("An END token stands at the text's length.");
        Expect.malformed("@");
        Expect.malformed(" @");
        Expect.malformed("\n\n@");
        Expect.malformed(";;@");
        Expect.malformed("(;;)@");
        String whole = "(module (func $f (param $x i32) (result i32) block $a (result i32) (local.get $x) end $a))";
        int[] cuts = {1, 7, 8, 9, 13, 14, 16, 17, 18, 23, 24, 26, 27, 30, 31, 32, 33, 39, 40, 43, 44, 45, 50, 51, 53, 54,
            55, 61, 62, 65, 66, 67, 68, 77, 78, 80, 81, 82, 85, 86, 88, 89};
        for (int cut : cuts) {
            Expect.malformed(whole.substring(0, cut) + "@");
            Expect.malformed(whole.substring(0, cut) + " ;; )@");
        }
        Expect.fine(whole);
    }

    private static void endOfFullText() {
        Expect.sentence("An END token stands at the text's length.");
        Expect.malformed(" ".repeat(320) + "@");
        Expect.malformed("(module" + " ".repeat(313) + "@");
        Expect.malformed("(module" + "(;".repeat(78) + ";" + ";)".repeat(78) + "@");
        Expect.fine(" ".repeat(312) + "(module)");
        Expect.fine("(module)" + ";".repeat(312));
        Expect.malformed(" ".repeat(319) + "(@");
        Expect.malformed(" ".repeat(319) + "@)");
        Expect.malformed(" ".repeat(313) + "(@modul");
        Expect.malformed("(module)" + " ".repeat(311) + "@x");
    }
}
