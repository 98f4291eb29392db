import java.util.Random;

/**
 * All promises, on texts that nobody wrote by hand: no call throws what it may not, what is
 * printed is the same module again, and MALFORMED does not depend on what stands behind it.
 */
public final class AnyTextTest {
    private static final String[] PARTS = {
        "(", ")", "(module", "(func", "(func $f", "(param i32)", "(param $x i64)", "(result i32)", "(result i64)",
        "(local i32 i64)", "(local $y i32)", "block", "block $a", "loop", "loop $b", "if", "else", "end", "end $a",
        "nop", "unreachable", "drop", "select", "return", "br 0", "br $a", "br_if 1", "call 0", "call $f",
        "local.get 0", "local.get $x", "local.set 1", "local.tee $y", "i32.const 1", "i32.const -77777",
        "i64.const 9223372036854775808", "i32.eqz", "i32.add", "i64.add", "i64.eqz", "i32.wrap_i64",
        "i64.extend_i32_s", "(nop", "(drop", "(i32.add", "(i32.const 5)", "(i64.const 6)", "(; x ;)", ";; y\n",
        "(;", "$", "\"", "i32", "4294967296",
    };

    public static void main(String[] args) {
        Random random = new Random(20261115);
        StackAssembler x = new StackAssembler();
        int fine = 0;
        for (int n = 0; n < 40000; n++) {
            String text = n % 4 == 0 ? anyText(random) : likelyText(random);
            Expect.write(x, text);
            String outcome = Expect.outcome(x);
            if (outcome.startsWith("fine")) {
                fine++;
                comesBack(x, text);
            } else if (outcome.startsWith("malformed")) {
                dependsOnNothingBehind(x, text, outcome);
            }
            ask(x, random);
        }
        Expect.same("some texts are fine", fine > 500, true);
        Expect.finish();
    }

    private static String anyText(Random random) {
        StringBuilder all = new StringBuilder("(module(func ");
        int parts = random.nextInt(20);
        for (int k = 0; k < parts; k++) {
            all.append(PARTS[random.nextInt(PARTS.length)]).append(random.nextInt(3) == 0 ? "" : " ");
        }
        return cut(all);
    }

    /** Unreachable code takes most instructions, so that many of these are in order. */
    private static String likelyText(Random random) {
        StringBuilder all = new StringBuilder("(module(func $f(param $x i64)(local $y i32)unreachable ");
        int parts = random.nextInt(12);
        for (int k = 0; k < parts; k++) {
            String part = PARTS[11 + random.nextInt(36)];
            all.append(part).append(part.startsWith("(") && !part.endsWith(")") ? ") " : " ");
        }
        all.append(random.nextInt(8) == 0 ? "end " : "").append(random.nextBoolean() ? "return" : "unreachable");
        return cut(all.append("))"));
    }

    private static String cut(StringBuilder all) {
        return all.substring(0, Math.min(320, all.length()));
    }

    private static void comesBack(StackAssembler x, String text) {
        String module = Expect.module(x);
        x.encode();
        String bytes = Expect.bytes(x);
        if (Expect.printThrows(x)) {
            return;
        }
        Expect.same("printed and assembled " + text, Expect.outcome(x), "fine " + x.functions());
        Expect.same("module of the printed " + text, Expect.module(x), module);
        x.encode();
        Expect.same("bytes of the printed " + text, Expect.bytes(x), bytes);
        String printed = Expect.text(x);
        x.print();
        Expect.same("printed again", Expect.text(x), printed);
    }

    private static void dependsOnNothingBehind(StackAssembler x, String text, String outcome) {
        int place = x.place();
        int behind = text.indexOf(' ', place);
        boolean missing = text.startsWith("$f", place);
        boolean bad = text.startsWith("(;", place);
        if (behind > 0 && behind < 310 && !missing && !bad) {
            Expect.write(x, text.substring(0, behind) + " ) drop");
            Expect.same("assemble of " + text + " up to " + behind, Expect.outcome(x), outcome);
        }
    }

    private static void ask(StackAssembler x, Random random) {
        int f = random.nextInt();
        int k = random.nextInt();
        int near = random.nextInt(80) - 8;
        x.character(k);
        x.octet(k);
        x.function(f, k);
        x.function(near, near);
        x.instruction(near & 3, near);
        x.immediate(near & 3, near);
        x.instruction(f, k);
        x.immediate(f, near);
        x.type(random.nextLong());
        x.encode();
    }
}
