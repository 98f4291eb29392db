/** The edges of promise 5 that lie in checking br, br_if, return, call, drop, select and local.*, and in PLACE. */
public final class EdgesOfBranchesTest {
    private static final String I = " i32.const 1 ";
    private static final String J = " i64.const 1 ";

    public static void main(String[] args) {
        br();
        brIf();
        brIfPuts();
        returns();
        unreachables();
        calls();
        callsBehindUnreachable();
        functionsNotThere();
        drops();
        selects();
        selectsBehindUnreachable();
        locals();
        tees();
        slotsNotThere();
        firstFunction();
        places();
        Expect.finish();
    }

    private static void fine(String body) {
        Expect.fine("(module(func " + body + "))");
    }

    private static void invalid(String body, int place) {
        Expect.invalid("(module(func " + body + "))", place);
    }

    private static void br() {
        Expect.sentence("br: the label's type is taken, then unreachable.");
        fine("br 0");
        fine("block br 0 i32.add drop end");
        fine("block (result i32)" + J + I + "br 0 end drop");
        invalid("block (result i32) br 0 end drop", 1);
        invalid("block (result i32)" + J + "br 0 end drop", 2);
        invalid("block (result i64)" + I + "br 0 end drop", 2);
        invalid("block (result i64)" + J + I + "br 0 end drop", 3);
        invalid(I + "block (result i32) br 0 end drop drop", 2);
        invalid("block (result i32) block br 1 end unreachable end drop", 2);
        invalid("block (result i32)" + I + "block br 1 end end drop", 3);
        invalid("(result i64) br 0", 0);
        invalid("(result i64)" + I + "br 0", 1);
        // Behind what makes the frame unreachable.
        fine("block (result i32) unreachable br 0 end drop");
        fine("block (result i32) br 1 br 0 end drop");
        invalid("block (result i32) unreachable" + J + "br 0 end drop", 3);
        invalid("block (result i64) unreachable" + I + "br 0 end drop", 3);
        // What makes a frame unreachable does so to the innermost alone.
        invalid("block br 1 end drop", 3);
        invalid("block br 1 end i32.add drop", 3);
        invalid("loop br 0 end drop", 3);
    }

    private static void brIf() {
        Expect.sentence("br_if: I is taken, then the label's type is taken, and that type is put");
        fine(I + "br_if 0");
        fine("block (result i64)" + J + I + "br_if 0 end drop");
        invalid("br_if 0", 0);
        invalid(J + "br_if 0", 1);
        invalid(I + "block br_if 0 end drop", 2);
        invalid("block (result i64)" + I + "br_if 0 end drop", 2);
        invalid("block (result i64)" + I + I + "br_if 0 end drop", 3);
        invalid("block (result i32)" + J + I + "br_if 0 end drop", 3);
        invalid("block (result i32)" + I + J + "br_if 0 end drop", 3);
        invalid(I + "block (result i32)" + I + "br_if 0 end drop drop", 3);
        // It does not make the frame unreachable, and what is below stays.
        invalid(I + "br_if 0 drop", 2);
        invalid("block (result i32)" + J + I + I + "br_if 0 end drop", 5);
        invalid("block (result i32)" + I + I + "br_if 0 drop end drop", 5);
        // Behind what makes the frame unreachable.
        fine("block (result i64) unreachable br_if 0 end drop");
        invalid("unreachable" + J + "br_if 0", 2);
        invalid("block (result i64) unreachable" + I + I + "br_if 0 end drop", 4);
        invalid("block (result i64) unreachable" + J + "br_if 0 end drop", 3);
    }

    private static void brIfPuts() {
        Expect.sentence("and that type is put (whatever was got).");
        fine("block (result i32) unreachable br_if 0 i32.eqz end drop");
        invalid("block (result i32) unreachable br_if 0 i64.eqz drop" + I + "end drop", 3);
        fine("block (result i64) unreachable select" + I + "br_if 0 i64.eqz drop unreachable end drop");
        invalid("block (result i64) unreachable select" + I + "br_if 0 i32.eqz end drop", 5);
        invalid("block unreachable br_if 0" + I + "end", 4);
        fine("loop (result i64) unreachable br_if 0 i64.eqz drop unreachable end drop");
    }

    private static void returns() {
        Expect.sentence("return: the function's result is taken, then unreachable.");
        fine("return");
        fine("return i64.add drop");
        fine(I + J + "return");
        fine("(result i32)" + J + I + "return");
        fine("(result i32) block" + I + "return end unreachable");
        fine("(result i32) block (result i64)" + I + "return end drop" + I);
        invalid("(result i32) return", 0);
        invalid("(result i32)" + J + "return", 1);
        invalid("(result i64)" + I + "return", 1);
        invalid("(result i64)" + J + I + "return", 2);
        invalid("(result i32)" + I + "block return end", 2);
        invalid("(result i32) block (result i64)" + J + "return end drop" + I, 2);
        // Behind what makes the frame unreachable.
        fine("(result i32) unreachable return");
        invalid("(result i32) unreachable" + J + "return", 2);
        invalid("(result i64)" + J + "return" + I + "return", 3);
        invalid("(result i64) unreachable block return end", 2);
        // The innermost frame alone becomes unreachable.
        invalid("block return end drop", 3);
        invalid("(result i32) block" + I + "return end", 4);
    }

    private static void unreachables() {
        Expect.sentence("unreachable: so.");
        fine("unreachable");
        fine("unreachable unreachable i32.add drop");
        fine("block unreachable i32.add drop end");
        invalid("block unreachable end i32.add drop", 3);
        invalid("unreachable block i32.add drop end", 2);
        Expect.invalid("(module(func unreachable)(func drop))", 64);
        Expect.invalid("(module(func unreachable)(func(result i32)))", 64);
    }

    private static void calls() {
        Expect.sentence("call: the parameters are taken, the last one first; the result is put.");
        String called = "(func(param i32 i64)(result i64)unreachable))";
        Expect.fine("(module(func" + I + J + "call 1 i64.eqz drop)" + called);
        Expect.invalid("(module(func" + I + J + "call 1 i32.eqz drop)" + called, 3);
        Expect.invalid("(module(func" + I + J + "call 1)" + called, 3);
        Expect.invalid("(module(func call 1 drop)" + called, 0);
        Expect.invalid("(module(func" + J + "call 1 drop)" + called, 1);
        Expect.invalid("(module(func" + I + "call 1 drop)" + called, 1);
        Expect.invalid("(module(func" + J + I + "call 1 drop)" + called, 2);
        Expect.invalid("(module(func" + J + J + "call 1 drop)" + called, 2);
        Expect.invalid("(module(func" + I + I + "call 1 drop)" + called, 2);
        Expect.invalid("(module(func" + I + "block" + J + "call 1 drop end drop)" + called, 3);
        Expect.invalid("(module(func" + I + I + J + "call 1 drop)" + called, 5);
        Expect.fine("(module(func call 1)(func(local i32 i64)))");
        Expect.invalid("(module(func call 1 drop)(func(local i32 i64)))", 1);
        Expect.invalid("(module(func" + I + "call 1)(func(local i32 i64)))", 2);
        fine("(param i32) local.get 0 call 0");
        String six = "(func(param i32 i32 i32 i32 i32 i64)))";
        Expect.fine("(module(func" + I.repeat(5) + J + "call 1)" + six);
        Expect.invalid("(module(func" + I.repeat(4) + J + "call 1)" + six, 5);
        Expect.invalid("(module(func" + J + I.repeat(4) + J + "call 1)" + six, 6);
    }

    private static void callsBehindUnreachable() {
        Expect.sentence("call: the parameters are taken, the last one first; the result is put.");
        String called = "(func(param i32 i64)(result i64)unreachable))";
        Expect.fine("(module(func unreachable call 1 drop)" + called);
        Expect.fine("(module(func unreachable" + J + "call 1 drop)" + called);
        Expect.fine("(module(func unreachable select call 1 drop)" + called);
        Expect.invalid("(module(func unreachable" + I + "call 1 drop)" + called, 2);
        Expect.invalid("(module(func unreachable" + J + J + "call 1 drop)" + called, 3);
        Expect.invalid("(module(func unreachable call 1 i32.eqz drop)" + called, 2);
        Expect.invalid("(module(func unreachable call 1)" + called, 2);
        Expect.invalid("(module(func unreachable block call 1 drop end)" + called, 2);
        // A call does not make a frame unreachable, whatever the called function does.
        Expect.invalid("(module(func call 1 drop)(func unreachable))", 1);
    }

    private static void functionsNotThere() {
        Expect.sentence("A label, local or function that is not there is INVALID.");
        for (int many = 1; many <= 4; many++) {
            String more = "(func)".repeat(many - 1) + ")";
            Expect.fine("(module(func call " + (many - 1) + ")" + more);
            Expect.invalid("(module(func call " + many + ")" + more, 0);
            Expect.invalid("(module(func nop call " + (many + 1) + ")" + more, 1);
            Expect.invalid("(module(func unreachable call " + many + ")" + more, 1);
            Expect.invalid("(module(func call 4294967295)" + more, 0);
        }
    }

    private static void drops() {
        Expect.sentence("drop: anything is taken.");
        fine(I + "drop" + J + "drop unreachable drop select drop");
        invalid("drop", 0);
        invalid(I + "drop drop", 2);
        invalid(I + "block drop end", 2);
        invalid("block unreachable end drop", 3);
    }

    private static void selects() {
        Expect.sentence("select: I, then anything, then that (or anything, if what was got first is any) is taken; "
                + "what was got is put");
        fine("(result i32)" + I + I + I + "select");
        fine("(result i64)" + J + J + I + "select");
        invalid("select drop", 0);
        invalid(I + "select drop", 1);
        invalid(I + I + "select drop", 2);
        invalid(J + I + "select drop", 2);
        invalid(J + J + J + "select drop", 3);
        invalid(I + I + J + "select drop", 3);
        invalid(I + J + I + "select drop", 3);
        invalid(J + I + I + "select drop", 3);
        invalid(I + "block" + I + I + "select drop end drop", 4);
        invalid(I + I + "block" + I + "select drop end drop drop", 4);
        invalid("(result i64)" + I + I + I + "select", 4);
        invalid("(result i32)" + J + J + I + "select", 4);
        invalid(I + I + I + "select", 4);
    }

    private static void selectsBehindUnreachable() {
        Expect.sentence("what was got is put (the second one's type if the first was any).");
        fine("unreachable select i32.eqz drop");
        fine("unreachable select i64.eqz drop");
        fine("(result i64) unreachable" + J + I + "select");
        invalid("(result i32) unreachable" + J + I + "select", 4);
        fine("(result i32) unreachable" + I + "select");
        fine("(result i64) unreachable" + I + "select");
        invalid("unreachable" + J + "select drop", 2);
        invalid("unreachable" + I + J + "select drop", 3);
        invalid("unreachable" + I + J + I + "select drop", 4);
        invalid("unreachable" + J + I + I + "select drop", 4);
        invalid("unreachable block select drop end", 2);
        invalid("unreachable select", 2);
        // An any on the stack, as what is got first and as what is got behind a type.
        fine("(result i64) unreachable select" + I + "select");
        fine("(result i32) unreachable select" + I + "select");
        fine("(result i64) unreachable select" + J + I + "select");
        invalid("(result i32) unreachable select" + J + I + "select", 5);
        invalid("unreachable select" + J + I + "select i32.eqz drop", 5);
        fine("unreachable select select select i64.eqz drop");
    }

    private static void locals() {
        Expect.sentence("local.get puts its type, set takes it");
        fine("(param i32)(local i64) local.get 0 i32.eqz drop local.get 1 i64.eqz drop");
        invalid("(param i32)(local i64) local.get 0 i64.eqz drop", 1);
        invalid("(param i32)(local i64) local.get 1 i32.eqz drop", 1);
        invalid("(param i32) local.get 0", 1);
        fine("(param i32)(local i64)" + I + "local.set 0" + J + "local.set 1");
        invalid("(param i32)(local i64)" + J + "local.set 0", 1);
        invalid("(param i32)(local i64)" + I + "local.set 1", 1);
        invalid("(param i32) local.set 0", 0);
        invalid("(param i32)" + I + "local.set 0 drop", 2);
        fine("(param i32) unreachable local.set 0");
        invalid("(param i32) unreachable" + J + "local.set 0", 2);
    }

    private static void tees() {
        Expect.sentence("tee takes it and puts it (that type, whatever was got).");
        fine("(param i64)(result i64)" + J + "local.tee 0");
        invalid("(param i64)" + J + "local.tee 0", 2);
        invalid("(param i64)" + I + "local.tee 0 drop", 1);
        invalid("(param i64) local.tee 0 drop", 0);
        fine("(param i64) unreachable local.tee 0 i64.eqz drop");
        invalid("(param i64) unreachable local.tee 0 i32.eqz drop", 2);
        fine("(param i64) unreachable select local.tee 0 i64.eqz drop");
        invalid("(param i64) unreachable select local.tee 0 i32.eqz drop", 3);
    }

    private static void slotsNotThere() {
        Expect.sentence("A label, local or function that is not there is INVALID.");
        for (int slots = 0; slots <= 8; slots++) {
            String head = "(local" + " i32".repeat(slots) + ")";
            for (String word : new String[] {"local.get ", "local.set ", "local.tee "}) {
                invalid(head + I + word + slots, 1);
                invalid(head + I + word + (slots + 1), 1);
                invalid(head + " unreachable " + word + slots, 1);
                if (slots > 0) {
                    fine(head + " unreachable " + word + (slots - 1) + " return");
                }
            }
        }
        Expect.invalid("(module(func(local i32))(func local.get 0 drop))", 64);
        Expect.invalid("(module(func local.get 0 drop)(func(local i32)))", 0);
    }

    private static void firstFunction() {
        Expect.sentence("IllegalStateException: INVALID (of the first function that is so;");
        Expect.invalid("(module(func)(func nop drop)(func drop)(func drop))", 65);
        Expect.invalid("(module(func" + I + ")(func drop))", 1);
        Expect.invalid("(module(func)(func)(func)(func drop))", 192);
        Expect.invalid("(module(func call 1 drop)(func(result i32)))", 64);
    }

    private static void places() {
        Expect.sentence("PLACE: 64 times the function, plus the number of the instruction in its row, or, "
                + "when its own frame ENDS, how many it has).");
        invalid("drop", 0);
        invalid(" nop".repeat(63) + " drop", 63);
        invalid("(result i32)" + " nop".repeat(64), 64);
        invalid("(result i32)", 0);
        Expect.invalid("(module(func)(func(result i32)))", 64);
        Expect.invalid("(module(func)(func" + " nop".repeat(63) + " drop))", 127);
        Expect.invalid("(module(func)(func(result i32)" + " nop".repeat(64) + "))", 128);
        Expect.invalid("(module(func)(func)(func)(func" + " nop".repeat(63) + " drop))", 255);
        Expect.invalid("(module(func)(func)(func)(func(result i32)" + " nop".repeat(64) + "))", 256);
        // The row has the order of what a folded one stands for.
        invalid("(drop(i32.add(i32.const 1)(i64.const 1)))", 2);
        invalid("(drop(i32.eqz(drop)))", 0);
        invalid("(nop(nop)(nop))(drop)", 3);
    }
}
