/** Promise 5, the tokens: words, comments, bad characters, the END token. */
public final class TokensTest {
    public static void main(String[] args) {
        gaps();
        comments();
        badTokens();
        words();
        ends();
        Expect.finish();
    }

    private static void gaps() {
        Expect.fine("(module)");
        Expect.fine("\n ( module\n\n)\n ");
        Expect.fine("(module(func nop(nop)nop)(func))");
    }

    private static void comments() {
        Expect.fine(";; one\n(module);; the end");
        Expect.fine("(module;;)\n)");
        Expect.fine("(module;;(;\n)");
        Expect.fine("(;;)(module(;x;))(; (; ;)(;;) ;; ;)");
        Expect.fine("(module(func nop(;;)nop;;\nnop))");
        Expect.fine("(;;;)(module)");
        Expect.fine("(;(;););)(;);)(module)");
        Expect.fine("(; ;; ;)(module)");
        Expect.malformed("(module;;)@");
        Expect.malformed("(module@(;)");
        Expect.malformed("@(;");
        Expect.malformed("@(;)(module)");
        Expect.malformed("(module @(; (; ;) )");
        Expect.malformed("(module (func nop @(;;(module)))");
        Expect.malformed("(module) (; ;) @;) ");
    }

    private static void badTokens() {
        for (String bad : new String[] {"\"", ",", ";", "[", "]", "{", "}", "; ;", ";)"}) {
            Expect.malformed("@" + bad + "(module)");
            Expect.malformed("(module @" + bad + ")");
            Expect.malformed("(module(func nop@" + bad + "nop))");
            Expect.malformed("(module(func br @" + bad + "0))");
            Expect.malformed("(module(func(param @" + bad + "))");
            Expect.malformed("(module)@" + bad);
        }
    }

    private static void words() {
        String marks = "!#$%&'*+-./:<=>?@\\^_`|~azAZ09";
        for (int k = 0; k < marks.length(); k++) {
            String name = "$" + marks.charAt(k);
            StackAssembler x = Expect.assembled("(module(func call " + name + ")(func " + name + "))");
            Expect.same("the function of " + name, x.immediate(0, 0), 1L);
        }
        Expect.malformed("(module(func @nopnop))");
        Expect.malformed("(module(func @i32.const-1 drop))");
        Expect.malformed("(module(func @NOP))");
        Expect.malformed("(module(func @no))");
        Expect.malformed("(@modules)");
        Expect.malformed("(module(@function))");
        Expect.malformed("(module(func block @$ end))");
    }

    private static void ends() {
        Expect.malformed("@");
        Expect.malformed("  \n@");
        Expect.malformed("(module @");
        Expect.malformed("(@");
        Expect.malformed("(module(func i32.const @");
        Expect.malformed("(module(func block (result i32)@");
        Expect.malformed("(module) @(module)");
        Expect.malformed("(module)@)");
        Expect.fine("(module)" + Expect.repeat(" ", 312));
        Expect.malformed("(module" + Expect.repeat(" ", 313) + "@");
    }
}
