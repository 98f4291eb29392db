/** The edges of promise 5 that lie in checking: each way in which an instruction is INVALID, and where. */
public final class EdgesOfStackTest {
    private static final String I = " i32.const 1 ";
    private static final String J = " i64.const 1 ";

    public static void main(String[] args) {
        takeFromNothing();
        takeFromUnreachable();
        takeAnotherType();
        takeAny();
        heights();
        ends();
        endsTooHigh();
        endsUnreachable();
        functionEnds();
        blocksAndLoops();
        ifs();
        elses();
        elseStartsAgain();
        ifWithoutElse();
        resultIsPut();
        labelTypes();
        Expect.finish();
    }

    private static void fine(String body) {
        Expect.fine("(module(func " + body + "))");
    }

    private static void invalid(String body, int place) {
        Expect.invalid("(module(func " + body + "))", place);
    }

    private static void takeFromNothing() {
        Expect.sentence("if the stack is at the frame's height: when that is unreachable any type is got, else it is INVALID");
        String[] takers = {"drop", "i32.eqz", "i64.eqz", "i32.add", "i64.add", "i32.wrap_i64", "i64.extend_i32_s", "select",
            "if end", "br_if 0", "local.set 0", "local.tee 0"};
        for (String taker : takers) {
            invalid("(local i32)" + taker, 0);
            invalid("(local i32) nop nop " + taker, 2);
            invalid("(local i32)" + I + "block " + taker + " end", 2);
            invalid("(local i32)" + I + "loop " + taker + " end", 2);
            invalid("(local i32)" + I + I + "if " + taker + " end", 3);
            invalid("(local i32)" + I + I + "if else " + taker + " end", 4);
        }
        for (String taker : new String[] {"i32.add", "i32.sub", "i32.mul", "i32.eq", "i32.lt_s", "select"}) {
            invalid(I + taker, 1);
            invalid(I + "block" + I + taker + " end", 3);
        }
        for (String taker : new String[] {"i64.add", "i64.mul", "i64.eq"}) {
            invalid(J + taker, 1);
        }
    }

    private static void takeFromUnreachable() {
        Expect.sentence("when that is unreachable any type is got");
        String[] makers = {"unreachable", "return", "br 0"};
        String[] takers = {"drop", "i32.eqz drop", "i64.eqz drop", "i32.add drop", "i64.add drop", "select drop", "if end",
            "br_if 0", "local.set 0", "local.tee 0 drop"};
        for (String maker : makers) {
            for (String taker : takers) {
                fine("(local i64)" + maker + " " + taker);
                fine("(local i64)" + I + "block " + maker + " " + taker + " end drop");
                // Another frame, inside or behind, is not unreachable.
                invalid("(local i64)" + maker + " block " + taker + " end", 2);
                invalid("(local i64) block " + maker + " end " + taker, 3);
            }
        }
    }

    private static void takeAnotherType() {
        Expect.sentence("otherwise the top goes, which must be that type, or any (INVALID if not).");
        String[] ofI = {"i32.eqz", "i64.extend_i32_s", "if end", "br_if 0", "local.set 0", "local.tee 0"};
        for (String taker : ofI) {
            invalid("(local i32)" + J + taker, 1);
            invalid("(local i32) unreachable" + J + taker, 2);
        }
        for (String taker : new String[] {"i64.eqz", "i32.wrap_i64", "local.set 0", "local.tee 0"}) {
            invalid("(local i64)" + I + taker, 1);
            invalid("(local i64) unreachable" + I + taker, 2);
        }
        for (String taker : new String[] {"i32.add", "i32.sub", "i32.mul", "i32.eq", "i32.lt_s"}) {
            invalid(I + J + taker, 2);
            invalid(J + I + taker, 2);
            invalid("unreachable" + J + taker, 2);
            invalid("unreachable" + J + I + taker, 3);
        }
        for (String taker : new String[] {"i64.add", "i64.mul", "i64.eq"}) {
            invalid(I + J + taker, 2);
            invalid(J + I + taker, 2);
            invalid("unreachable" + I + taker, 2);
            invalid("unreachable" + I + J + taker, 3);
        }
    }

    private static void takeAny() {
        Expect.sentence("(An any on the stack, which select alone can put, is taken as every type.)");
        fine("unreachable select i32.eqz drop");
        fine("unreachable select i64.eqz drop");
        fine("(result i32) unreachable select");
        fine("(result i64) unreachable select");
        fine("(local i64) unreachable select local.set 0");
        fine("(local i32) unreachable select local.tee 0 drop");
        fine("unreachable select if end");
        fine("unreachable select br_if 0");
        fine("unreachable select drop");
        fine("unreachable block (result i64) unreachable select br 0 end drop");
        fine("unreachable" + J + "unreachable select" + I + "select i64.eqz drop");
        // It is on the stack all the same: a frame that ENDS finds it there.
        invalid("unreachable select", 2);
        invalid("block unreachable select end", 3);
        invalid("(result i32) unreachable select select" + I, 4);
    }

    private static void heights() {
        Expect.sentence("A frame has the stack's HEIGHT when it began (for if: behind its I)");
        invalid(I + "block drop end", 2);
        invalid(I + "loop drop end", 2);
        invalid(I + I + "if drop end", 3);
        fine(I + I + "if nop end drop");
        fine("(result i64)" + J + I + "if nop end");
        fine("(result i32)" + I + "block" + I + "drop end");
        fine("(result i32)" + I + I + "block (result i32)" + I + "end i32.add i32.add");
        invalid("(result i32)" + I + I + "block (result i32) i32.add end", 3);
    }

    private static void ends() {
        Expect.sentence("A frame ENDS: its result is taken");
        for (String opening : new String[] {"block", "loop"}) {
            invalid(opening + " (result i32) end drop", 1);
            invalid(opening + " (result i64) end drop", 1);
            invalid(opening + " (result i32)" + J + "end drop", 2);
            invalid(opening + " (result i64)" + I + "end drop", 2);
            invalid(I + opening + " (result i32) end drop drop", 2);
            invalid(opening + " (result i32) unreachable" + J + "end drop", 3);
            invalid(opening + " (result i64) unreachable" + I + "end drop", 3);
            fine(opening + " (result i32)" + I + "end drop");
            fine(opening + " (result i64) unreachable end drop");
        }
    }

    private static void endsTooHigh() {
        Expect.sentence("then the stack must be at its height (INVALID if not).");
        for (String opening : new String[] {"block", "loop", "unreachable if", "unreachable if else"}) {
            int first = opening.split(" ").length;
            invalid(opening + I + "end drop", first + 1);
            invalid(opening + J + "end drop", first + 1);
            invalid(opening + I + I + "end drop drop", first + 2);
            invalid(opening + " unreachable" + I + "end drop", first + 2);
        }
        for (String opening : new String[] {"block (result i32)", "loop (result i32)"}) {
            invalid(opening + I + I + "end drop drop", 3);
            invalid(opening + J + I + "end drop drop", 3);
            invalid(opening + " unreachable" + I + I + "end drop drop", 4);
            invalid(opening + " br 1" + J + I + "end drop drop", 4);
        }
    }

    private static void endsUnreachable() {
        Expect.sentence("Making a frame unreachable: the stack falls to its height.");
        for (String maker : new String[] {"unreachable", "return", "br 0", "br 1"}) {
            fine("block" + I + J + maker + " end");
            fine(I + "block" + I + maker + " end drop");
            invalid("block" + I + maker + I + "end", 4);
            invalid(I + "block " + maker + " end", 4);
        }
        fine(I + J + "unreachable");
        fine(I + J + "return");
        fine(I + J + "br 0");
        invalid("(result i64)" + J + "unreachable" + I, 3);
    }

    private static void functionEnds() {
        Expect.sentence("Behind the last instruction the function's frame ENDS.");
        fine("");
        fine("(result i32)" + I);
        invalid("(result i32)", 0);
        invalid("(result i64)", 0);
        invalid("(result i64) nop nop", 2);
        invalid("(result i64)" + I, 1);
        invalid("(result i32)" + J, 1);
        invalid(I, 1);
        invalid(J + I, 2);
        invalid("(result i32)" + I + I, 2);
        invalid("unreachable" + I, 2);
        invalid("(result i32) unreachable" + J, 2);
        invalid("(result i32) unreachable" + I + I, 3);
        fine("(result i32) unreachable");
        fine("(result i32) unreachable" + I);
        Expect.invalid("(module(func)(func(result i32)))", 64);
        Expect.invalid("(module(func)(func)(func)(func nop" + I + "))", 194);
    }

    private static void blocksAndLoops() {
        Expect.sentence("block, loop: a frame.");
        fine("block end loop end");
        fine("(result i32) block (result i32)" + I + "end");
        fine("(result i64) loop (result i64)" + J + "end");
        invalid("(result i64) block (result i32)" + I + "end", 3);
        invalid("block (result i32)" + I + "end", 3);
    }

    private static void ifs() {
        Expect.sentence("if: I is taken, a frame.");
        fine(I + "if end");
        fine("unreachable if end");
        invalid("if end", 0);
        invalid(J + "if end", 1);
        invalid("unreachable" + J + "if end", 2);
        invalid(I + "block if end end drop", 2);
        invalid(I + "if (result i32)" + J + "else" + I + "end drop", 3);
        // The frame is a new one: it is not unreachable where the one around is.
        invalid("unreachable if drop end", 2);
    }

    private static void elses() {
        Expect.sentence("else (of an if without one): the frame ENDS");
        invalid(I + "if" + I + "else end", 3);
        invalid(I + "if (result i32) else" + I + "end drop", 2);
        invalid(I + "if (result i32)" + J + "else" + I + "end drop", 3);
        invalid(I + "if (result i32)" + I + I + "else" + I + "end drop", 4);
        invalid(I + I + "if (result i32) else" + I + "end drop drop", 3);
        invalid("unreachable if unreachable" + I + "else end", 4);
        invalid("unreachable if (result i64) unreachable" + I + "else" + J + "end drop", 4);
        fine("unreachable if (result i64) unreachable else" + J + "end drop");
        fine(I + "if (result i64)" + J + "else" + J + "end drop");
        Expect.malformed("(module(func @else))");
        Expect.malformed("(module(func block @else end))");
        Expect.malformed("(module(func loop @else end))");
        Expect.malformed("(module(func" + I + "if else @else end))");
        Expect.malformed("(module(func" + I + "if block @else end end))");
    }

    private static void elseStartsAgain() {
        Expect.sentence("its stack is at its height again, not unreachable, with the same label and result.");
        invalid(I + "if (result i32)" + I + "else end drop", 4);
        invalid(I + "if unreachable else drop end", 4);
        invalid(I + "if br 0 else i32.add end", 4);
        invalid(I + "if return else select end", 4);
        invalid(I + "if (result i32)" + I + "else" + J + "end drop", 5);
        invalid(I + "if (result i32)" + I + "else br 0 end drop", 4);
        fine(I + "if (result i32)" + I + "else" + I + "br 0 end drop");
        invalid(J + I + "if else drop end", 4);
        fine("(result i64)" + J + I + "if else end");
        fine(I + "if (result i64)" + J + "br 0 else" + J + "br 0 end drop");
    }

    private static void ifWithoutElse() {
        Expect.sentence("an if with a result needs an else (INVALID if not)");
        invalid(I + "if (result i32)" + I + "end drop", 3);
        invalid(I + "if (result i64)" + J + "end drop", 3);
        invalid(I + "if (result i32) unreachable end drop", 3);
        invalid("unreachable if (result i32) br 1 end drop", 3);
        fine(I + "if end");
        fine(I + "if (result i32)" + I + "else" + I + "end drop");
        // An else of another if is none of it.
        invalid(I + "if (result i32)" + I + "if else end" + I + "end drop", 7);
    }

    private static void resultIsPut() {
        Expect.sentence("end: the frame ENDS, and goes;");
        fine("block (result i64) unreachable end i64.eqz drop");
        invalid("block (result i64) unreachable end i32.eqz drop", 3);
        invalid("block (result i64) unreachable end", 3);
        invalid("block unreachable end drop", 3);
        invalid("loop (result i32) unreachable end i64.eqz drop", 3);
        invalid("unreachable if (result i32) unreachable else unreachable end i64.eqz drop", 6);
        invalid("block br 1 end br 1", 3);
        fine("block block end br 1 end");
    }

    private static void labelTypes() {
        Expect.sentence("The label's type of a loop is none, of others their result.");
        fine("loop (result i32) br 0 end drop");
        fine("loop (result i32)" + I + "br_if 0" + I + "end drop");
        invalid("block (result i32) br 0 end drop", 1);
        invalid("block (result i32)" + I + "br_if 0" + I + "end drop", 2);
        invalid(I + "if (result i32) br 0 else" + I + "end drop", 2);
        invalid(I + "if (result i32)" + I + "else br 0 end drop", 4);
        invalid("(result i32) br 0", 0);
        fine("block (result i64) loop (result i32)" + J + "br 1 end drop unreachable end drop");
        invalid("block (result i64) loop (result i32) br 1 end drop unreachable end drop", 2);
    }
}
