/** Promises 5 and 9: what makes a text INVALID, and where. */
public final class CheckingTest {
    public static void main(String[] args) {
        signatures();
        constants();
        frames();
        ifs();
        branches();
        unreachables();
        calls();
        dropsAndSelects();
        locals();
        places();
        Expect.finish();
    }

    private static void body(String body) {
        Expect.fine("(module(func " + body + "))");
    }

    private static void wrong(String body, int place) {
        Expect.invalid("(module(func " + body + "))", place);
    }

    /** What the instructions take, in order, and put. */
    private static final String[][] SIMPLE = {
        {"i32.eqz", "I", "I"}, {"i32.eq", "II", "I"}, {"i32.lt_s", "II", "I"}, {"i32.add", "II", "I"},
        {"i32.sub", "II", "I"}, {"i32.mul", "II", "I"}, {"i64.eqz", "J", "I"}, {"i64.eq", "JJ", "I"},
        {"i64.add", "JJ", "J"}, {"i64.mul", "JJ", "J"}, {"i32.wrap_i64", "J", "I"}, {"i64.extend_i32_s", "I", "J"},
    };

    private static void signatures() {
        for (String[] one : SIMPLE) {
            String right = constants(one[1]);
            String result = one[2].equals("I") ? "(result i32)" : "(result i64)";
            String other = one[2].equals("I") ? "(result i64)" : "(result i32)";
            int count = one[1].length();
            body(result + right + one[0]);
            wrong(other + right + one[0], count + 1);
            wrong(result + constants(one[1].substring(1)) + one[0], count - 1);
            wrong(result + constants(swapped(one[1], 0)) + one[0], count);
            wrong(result + constants(swapped(one[1], count - 1)) + one[0], count);
        }
    }

    private static String constants(String types) {
        StringBuilder all = new StringBuilder();
        for (int k = 0; k < types.length(); k++) {
            all.append(types.charAt(k) == 'I' ? " i32.const 1 " : " i64.const 1 ");
        }
        return all.toString();
    }

    private static String swapped(String types, int k) {
        return types.substring(0, k) + (types.charAt(k) == 'I' ? 'J' : 'I') + types.substring(k + 1);
    }

    private static void constants() {
        body("");
        body("nop");
        body("(result i32) i32.const 1");
        body("(result i64) i64.const 1");
        wrong("(result i32) i64.const 1", 1);
        wrong("(result i64) i32.const 1", 1);
        wrong("(result i64)", 0);
        wrong("i32.const 1", 1);
        wrong("(result i32) i32.const 1 i32.const 2", 2);
        wrong("nop nop i32.add", 2);
    }

    private static void frames() {
        body("block end loop end");
        body("(result i32) block (result i32) i32.const 1 end");
        body("(result i64) loop (result i64) i64.const 1 end");
        wrong("i32.const 1 block drop end", 2);
        wrong("block i32.const 1 end drop", 2);
        wrong("block (result i32) end drop", 1);
        wrong("block (result i32) i64.const 1 end drop", 2);
        wrong("block (result i32) i32.const 1 i32.const 1 end drop", 3);
        wrong("loop i32.const 1 end drop", 2);
        wrong("block (result i32) i32.const 1 end", 3);
        body("i32.const 1 block end drop");
        body("(result i32) i32.const 1 block (result i32) i32.const 2 end i32.add");
    }

    private static void ifs() {
        body("i32.const 1 if nop end");
        body("i32.const 1 if else end");
        body("i32.const 1 if (result i32) i32.const 1 else i32.const 2 end drop");
        wrong("if end", 0);
        wrong("i64.const 1 if end", 1);
        wrong("i32.const 1 if (result i32) i32.const 1 end drop", 3);
        wrong("i32.const 1 if (result i32) unreachable end drop", 3);
        wrong("i32.const 1 if (result i32) else i32.const 1 end drop", 2);
        wrong("i32.const 1 if (result i32) i32.const 1 else end drop", 4);
        wrong("i32.const 1 if i32.const 1 else drop end", 3);
        wrong("i32.const 1 if unreachable else drop end", 4);
        wrong("i32.const 1 if (result i64) unreachable else end drop", 4);
        body("i64.const 1 i32.const 1 if (result i32) unreachable else i32.const 1 end drop drop");
        wrong("i64.const 1 i32.const 1 if drop end", 3);
        wrong("i64.const 1 i32.const 1 if else drop end drop", 4);
    }

    private static void branches() {
        body("br 0");
        body("block br 0 end");
        body("block br 1 end");
        wrong("br 1", 0);
        wrong("block br 2 end", 1);
        wrong("block end br 1", 2);
        body("block (result i32) i32.const 1 br 0 end drop");
        body("block (result i32) i64.const 2 i32.const 1 br 0 end drop");
        wrong("block (result i32) br 0 end drop", 1);
        wrong("block (result i32) i64.const 1 br 0 end drop", 2);
        body("loop (result i32) br 0 end drop");
        wrong("loop (result i32) i32.const 1 br_if 0 end drop", 3);
        body("loop (result i32) i32.const 1 br_if 0 i32.const 1 end drop");
        body("(result i32) i32.const 1 br 0");
        wrong("(result i32) br 0", 0);
        body("(result i32) block block i32.const 1 br 2 end end unreachable");
        body("block (result i32) i32.const 5 i32.const 1 br_if 0 end drop");
        wrong("block (result i32) i32.const 1 br_if 0 end drop", 2);
        wrong("block (result i32) i64.const 1 i32.const 1 br_if 0 end drop", 3);
        wrong("i64.const 1 br_if 0", 1);
        wrong("br_if 0", 0);
        wrong("i32.const 1 br_if 1", 1);
        wrong("i32.const 1 br_if 0 drop", 2);
        // br_if puts the label's type even where anything was got.
        wrong("block (result i32) unreachable br_if 0 i64.eqz end drop", 3);
        body("block (result i64) unreachable br_if 0 i64.eqz drop unreachable end drop");
        body("i32.const 1 if (result i32) i32.const 1 br 0 else i32.const 2 br 0 end drop");
    }

    private static void unreachables() {
        body("unreachable");
        body("unreachable i32.add drop");
        body("unreachable i64.add i64.eqz drop");
        body("unreachable drop drop drop");
        body("(result i64) unreachable");
        body("i32.const 1 i64.const 2 unreachable");
        wrong("unreachable i32.const 1", 2);
        wrong("unreachable i32.add", 2);
        wrong("unreachable i64.const 1 i32.add drop", 2);
        wrong("unreachable i32.const 1 i64.const 1 i32.add drop", 3);
        wrong("unreachable block drop end", 2);
        wrong("block unreachable end drop", 3);
        body("i32.const 1 block unreachable end drop");
        body("return");
        body("return drop");
        body("(result i32) i32.const 1 return");
        body("(result i32) i64.const 1 i32.const 1 return");
        wrong("(result i32) return", 0);
        wrong("(result i32) i64.const 1 return", 1);
        body("(result i32) block i32.const 1 return end unreachable");
        wrong("(result i32) block return end unreachable", 1);
        wrong("(result i32) block i32.const 1 return end", 4);
        body("br 0 i32.add drop");
        wrong("block br 1 end i32.add drop", 3);
        wrong("unreachable local.get 0 drop", 1);
        wrong("block unreachable end block drop end", 4);
        Expect.invalid("(module(func unreachable)(func drop))", 64);
        wrong("unreachable br 1", 1);
        wrong("unreachable call 1", 1);
    }

    private static void calls() {
        Expect.fine("(module(func i32.const 1 i64.const 2 call 1 drop)(func(param i32 i64)(result i32)i32.const 0))");
        Expect.invalid("(module(func i64.const 1 i32.const 2 call 1 drop)(func(param i32 i64)(result i32)i32.const 0))", 2);
        Expect.invalid("(module(func i32.const 2 call 1)(func(param i32 i32)))", 1);
        Expect.invalid("(module(func call 1)(func(result i64)i64.const 0))", 1);
        Expect.invalid("(module(func call 1 i32.eqz drop)(func(result i64)i64.const 0))", 1);
        Expect.fine("(module(func call 1 i64.eqz drop)(func(result i64)i64.const 0))");
        Expect.fine("(module(func call 0))");
        Expect.fine("(module(func(local i32)call 1)(func(local i64)call 0))");
        wrong("call 1", 0);
        wrong("call 4294967295", 0);
        Expect.fine("(module(func unreachable call 1)(func(param i32 i64 i32)))");
        Expect.invalid("(module(func unreachable i32.const 1 call 1)(func(param i32 i64)))", 2);
    }

    private static void dropsAndSelects() {
        body("i32.const 1 drop i64.const 1 drop");
        wrong("drop", 0);
        wrong("nop select drop", 1);
        body("(result i32) i32.const 1 i32.const 2 i32.const 3 select");
        body("(result i64) i64.const 1 i64.const 2 i32.const 3 select");
        wrong("(result i64) i32.const 1 i32.const 2 i32.const 3 select", 4);
        wrong("(result i64) i64.const 1 i64.const 2 i64.const 3 select", 3);
        wrong("(result i64) i64.const 1 i32.const 2 i32.const 3 select", 3);
        wrong("(result i32) i64.const 1 i32.const 2 i32.const 3 select", 3);
        wrong("i32.const 2 i32.const 3 select drop", 2);
        body("(result i32) unreachable select");
        body("(result i64) unreachable select");
        body("unreachable select i32.add i64.extend_i32_s drop");
        body("unreachable select i64.add drop");
        body("(result i64) unreachable i64.const 1 i32.const 1 select");
        wrong("(result i32) unreachable i64.const 1 i32.const 1 select", 4);
        body("(result i64) unreachable i32.const 1 select");
        wrong("(result i64) unreachable i64.const 1 select", 2);
        // An any on the stack is taken as every type, also as what select got first.
        body("(result i64) unreachable i64.const 1 unreachable select i32.const 1 select");
        body("(result i64) unreachable select select");
        body("unreachable select br_if 0");
        body("unreachable select drop");
        body("unreachable select if end");
        wrong("unreachable select", 2);
        body("(local i64) unreachable select local.set 0");
        // The second one tells the type when the first was any: J here, under an any and an I.
        body("(result i64) unreachable i64.const 1 unreachable i32.const 1 select");
    }

    private static void locals() {
        body("(param i32)(local i64) local.get 0 drop local.get 1 i64.eqz drop");
        wrong("(param i32)(local i64) local.get 0 i64.eqz drop", 1);
        wrong("(param i32)(local i64) local.get 1 i32.eqz drop", 1);
        wrong("(param i32)(local i64) local.get 2 drop", 0);
        body("(param i32) i32.const 1 local.set 0");
        wrong("(param i32) i64.const 1 local.set 0", 1);
        wrong("(param i32) local.set 0", 0);
        wrong("i32.const 1 local.set 0", 1);
        body("(param i32)(result i32) i32.const 1 local.tee 0");
        wrong("(param i32)(result i64) i64.const 1 local.tee 0", 1);
        wrong("(param i32) i32.const 1 local.tee 0", 2);
        wrong("(param i32) local.tee 0 drop", 0);
        wrong("(param i32) i32.const 1 local.tee 1 drop", 1);
        wrong("(param i64) unreachable local.tee 0 i32.eqz drop", 2);
        body("(param i64) unreachable local.tee 0 i64.eqz drop");
    }

    private static void places() {
        Expect.invalid("(module(func)(func i32.add))", 64);
        Expect.invalid("(module(func)(func)(func nop nop drop))", 130);
        Expect.invalid("(module(func)(func nop)(func)(func nop i32.const 1))", 194);
        Expect.invalid("(module(func i32.const 1)(func i32.add))", 1);
        Expect.invalid("(module(func" + Expect.repeat(" nop", 63) + " drop))", 63);
        Expect.invalid("(module(func(result i32)" + Expect.repeat(" nop", 64) + "))", 64);
        Expect.invalid("(module(func(drop(i32.add(i32.const 1)(i64.const 1)))))", 2);
    }
}
