import java.util.Arrays;
import java.util.List;

/** The edges of promise 5 that lie in the grammar: which token can stand behind which, and which is the first that cannot. */
public final class EdgesOfGrammarTest {
    private static final List<String> TOKENS = Arrays.asList("(", ")", "module", "func", "param", "result", "local", "i32",
            "i64", "block", "loop", "if", "else", "end", "nop", "i32.add", "br", "br_if", "call", "local.get", "local.tee",
            "i32.const", "i64.const", "$a", "$", "0", "-1", "x", "\"", ";", "(;");
    private static final String PLAIN = " nop i32.add br br_if call local.get local.tee i32.const i64.const ";
    private static final String INSTR = " ( block loop if" + PLAIN;

    public static void main(String[] args) {
        modules();
        heads();
        declarations();
        results();
        blocks();
        elses();
        ends();
        plains();
        foldeds();
        foldedOrder();
        firstOfAll();
        Expect.finish();
    }

    /**
     * Behind the tokens before it, each token either can go on, and then the END token is what
     * cannot, or is the one at fault.
     */
    private static void behind(String before, String canGoOn) {
        List<String> right = Arrays.asList(canGoOn.trim().split(" +"));
        Expect.same("assemble of " + before, Expect.outcome(Expect.typed(before)), "malformed " + before.length());
        for (String token : TOKENS) {
            String text = before + token + "  ";
            int place = right.contains(token) ? text.length() : before.length();
            Expect.same("assemble of " + text, Expect.outcome(Expect.typed(text)), "malformed " + place);
        }
        for (String token : right) {
            Expect.same(token + " is a token of this test", token.isEmpty() || TOKENS.contains(token), true);
        }
    }

    private static void modules() {
        Expect.sentence("module = ( module func .. ) END.");
        behind("", "(");
        behind("( ", "module");
        behind("(module( ", "func");
        behind("(module(func)( ", "func");
        Expect.fine("(module)");
        Expect.malformed("(module @module)");
        Expect.malformed("(module @$a)");
        Expect.malformed("(module(func)@nop)");
        for (String token : TOKENS) {
            Expect.malformed("(module) @" + token);
            Expect.malformed("(module(func)) @" + token + " )");
        }
    }

    private static void heads() {
        Expect.sentence("func = ( func id? param .. result? local .. instr .. ).");
        behind("(module(func ", INSTR + ") $a");
        behind("(module(func $b ", INSTR + ")");
        behind("(module(func( ", PLAIN + "param result local");
        behind("(module(func $b( ", PLAIN + "param result local");
        behind("(module(func(param)( ", PLAIN + "param result local");
        behind("(module(func(param) ", INSTR + ")");
        behind("(module(func(result i32)( ", PLAIN + "local");
        behind("(module(func(result i32) ", INSTR + ")");
        behind("(module(func(local)( ", PLAIN + "local");
        behind("(module(func(param)(local)( ", PLAIN + "local");
        behind("(module(func(param)(result i64)(local)( ", PLAIN + "local");
        behind("(module(func(local) ", INSTR + ")");
        behind("(module(func nop ", INSTR + ")");
        behind("(module(func nop( ", PLAIN);
        behind("(module(func(nop)( ", PLAIN);
        behind("(module(func br 0( ", PLAIN);
        behind("(module(func block end( ", PLAIN);
        // Each function begins anew.
        behind("(module(func $b(result i32)(local)nop)(func ", INSTR + ") $a");
        behind("(module(func $b(result i32)(local)nop)(func( ", PLAIN + "param result local");
    }

    private static void declarations() {
        Expect.sentence("param = ( param id type ), or ( param type .. ).  local alike with local.");
        for (String word : new String[] {"param", "local"}) {
            String opened = "(module(func(" + word + " ";
            behind(opened, ") $a i32 i64");
            behind(opened + "$b ", "i32 i64");
            behind(opened + "$b i32 ", ")");
            behind(opened + "i32 ", ") i32 i64");
            behind(opened + "i32 i64 ", ") i32 i64");
            behind(opened + "$b i32)(" + word + " ", ") $a i32 i64");
            behind(opened + "$a i32)(" + word + " ", ") i32 i64");
        }
        behind("(module(func(param $a i32)(local ", ") i32 i64");
        behind("(module(func(param $a i32))(func(local ", ") $a i32 i64");
    }

    private static void results() {
        Expect.sentence("result = ( result type ).  type = i32 or i64.");
        behind("(module(func(result ", "i32 i64");
        behind("(module(func(result i32 ", ")");
        behind("(module(func block(result ", "i32 i64");
        behind("(module(func loop(result i64 ", ")");
    }

    private static void blocks() {
        Expect.sentence("block id? result? instr .. end id?, or loop alike, or if id? result? instr .. end id?, "
                + "or if id? result? instr .. else id? instr .. end id?.");
        for (String word : new String[] {"block", "loop", "if"}) {
            String more = word.equals("if") ? "end else" : "end";
            String opened = "(module(func " + word + " ";
            behind(opened, INSTR + "$a " + more);
            behind(opened + "$b ", INSTR + more);
            behind(opened + "( ", PLAIN + "result");
            behind(opened + "$b( ", PLAIN + "result");
            behind(opened + "(result i32) ", INSTR + more);
            behind(opened + "(result i32)( ", PLAIN);
            behind(opened + "nop ", INSTR + more);
            behind(opened + "nop( ", PLAIN);
            behind(opened + "(nop) ", INSTR + more);
            behind(opened + "(nop)( ", PLAIN);
            behind(opened + "block end ", INSTR + more);
            behind(opened + "block ", INSTR + "$a end");
            Expect.malformed(opened + "nop @)");
        }
    }

    private static void elses() {
        Expect.sentence("or if id? result? instr .. else id? instr .. end id?.");
        behind("(module(func if else ", INSTR + "end");
        behind("(module(func if $b else ", INSTR + "end");
        behind("(module(func if $a else ", INSTR + "end $a");
        behind("(module(func if $a else $a ", INSTR + "end");
        behind("(module(func if else( ", PLAIN);
        behind("(module(func if else nop ", INSTR + "end");
        behind("(module(func if $a else nop ", INSTR + "end");
        behind("(module(func if else block ", INSTR + "end $a");
        behind("(module(func if else if end ", INSTR + "end");
        behind("(module(func if else if ", INSTR + "end else $a");
    }

    private static void ends() {
        Expect.sentence("An id behind else or end is that of its block (which has one then; else it is WRONG).");
        for (String opened : new String[] {"block", "loop", "if"}) {
            behind("(module(func " + opened + " end ", INSTR + ")");
            behind("(module(func " + opened + " $b end ", INSTR + ")");
            behind("(module(func " + opened + " $a end ", INSTR + ") $a");
            behind("(module(func " + opened + " $a end $a ", INSTR + ")");
            behind("(module(func " + opened + " $a end nop ", INSTR + ")");
            behind("(module(func block " + opened + " $a end ", INSTR + "end $a");
            behind("(module(func block $a " + opened + " end ", INSTR + "end");
            behind("(module(func block $a " + opened + " $b end $b end ", INSTR + ") $a");
        }
        behind("(module(func if $a else end ", INSTR + ") $a");
        behind("(module(func if $a else $a end ", INSTR + ") $a");
    }

    private static void plains() {
        Expect.sentence("plain = a word of an instruction but block, loop, if, else, end; "
                + "with a number behind i32.const and i64.const, an index behind br, br_if, call, local.*.");
        for (String open : new String[] {"", "("}) {
            String function = "(module(func " + open;
            behind(function + "br ", "0");
            behind(function + "br_if ", "0");
            behind(function + "call ", "0 $a");
            behind(function + "local.get ", "0");
            behind(function + "local.set ", "0");
            behind(function + "local.tee ", "0");
            behind(function + "i32.const ", "0 -1");
            behind(function + "i64.const ", "0 -1");
            behind("(module(func block $a " + open + "br ", "0 $a");
            behind("(module(func loop $a " + open + "br_if ", "0 $a");
            behind("(module(func(param $a i32)" + open + "local.get ", "0 $a");
            behind("(module(func(local $a i32)" + open + "local.tee ", "0 $a");
            behind("(module(func $a(param $b i32)block $c " + open + "local.set ", "0");
            behind("(module(func $a(param $a i32)block $c " + open + "br ", "0");
        }
        behind("(module(func br 0 ", INSTR + ")");
        behind("(module(func i32.const 5 ", INSTR + ")");
        behind("(module(func call $f ", INSTR + ")");
    }

    private static void foldeds() {
        Expect.sentence("folded = ( plain folded .. ).");
        behind("(module(func(nop ", "( )");
        behind("(module(func(nop( ", PLAIN);
        behind("(module(func(br 0 ", "( )");
        behind("(module(func(br 0( ", PLAIN);
        behind("(module(func(i64.const -5 ", "( )");
        behind("(module(func(nop(nop) ", "( )");
        behind("(module(func(nop(nop)( ", PLAIN);
        behind("(module(func(nop) ", INSTR + ")");
        behind("(module(func block(nop) ", INSTR + "end");
    }

    private static void foldedOrder() {
        Expect.sentence("(It stands for those behind its plain, in their order, then that.)");
        StackAssembler x = Expect.assembled("(module(func(nop(i32.const 1(i32.const 2)(i32.const 3))(br 0(i32.const 4)))))");
        long[] due = {2, 3, 1, 4, 0, 0};
        int[] codes = {0x41, 0x41, 0x41, 0x41, 0x0C, 0x01};
        for (int k = 0; k < due.length; k++) {
            Expect.same("instruction(0, " + k + ")", x.instruction(0, k), codes[k]);
            Expect.same("immediate(0, " + k + ")", x.immediate(0, k), due[k]);
        }
        Expect.same("function(0, 3)", x.function(0, 3), due.length);
        x = Expect.assembled("(module(func(nop)))");
        Expect.same("one without any behind it", x.instruction(0, 0), 0x01);
        Expect.same("function(0, 3)", x.function(0, 3), 1);
    }

    private static void firstOfAll() {
        Expect.sentence("the first token that is WRONG, or with which no module can go on after the tokens before it, "
                + "makes the text MALFORMED, at its place");
        Expect.malformed("(module(func @x) y");
        Expect.malformed("(module(func local.get @$x) y");
        Expect.malformed("(module(func @x local.get $x))");
        Expect.malformed("(module(func $a)(func @$a br $b))");
        Expect.malformed("(module(func i32.const @4294967296 br $b))");
        Expect.malformed("(module(func call $f br @$b))");
    }
}
