/** Promises 2 to 4: type, wipe, character. */
public final class TypingTest {
    public static void main(String[] args) {
        ordersBytes();
        refusesCharacters();
        keepsTheLimit();
        wipes();
        Expect.finish();
    }

    private static void ordersBytes() {
        StackAssembler x = new StackAssembler();
        Expect.same("type(abcdefgh)", x.type(Expect.eight("abcdefgh")), true);
        Expect.same("text", Expect.text(x), "abcdefgh");
        Expect.same("type(i)", x.type('i'), true);
        Expect.same("type(0)", x.type(0), true);
        Expect.same("text", Expect.text(x), "abcdefghi");
        Expect.same("type with zeros between", x.type(0x4100004200430000L), true);
        Expect.same("text", Expect.text(x), "abcdefghiABC");
        Expect.same("type with LF, blank and ~", x.type(0x0A207EL), true);
        Expect.same("text", Expect.text(x), "abcdefghiABC\n ~");
        Expect.same("character(0)", x.character(0), 'a');
        Expect.same("character(14)", x.character(14), '~');
        int[] beyond = {15, 319, 320, 321, -1, Integer.MIN_VALUE, Integer.MAX_VALUE};
        for (int k : beyond) {
            Expect.same("character(" + k + ")", (int) x.character(k), 0);
        }
    }

    private static void refusesCharacters() {
        StackAssembler x = Expect.typed("ab");
        for (int one = 0; one < 256; one++) {
            boolean good = one == 0 || one == 10 || one >= 32 && one <= 126;
            for (int shift = 0; shift < 64; shift += 8) {
                long eight = 0x6161616161616161L & ~(0xFFL << shift) | (long) one << shift;
                Expect.write(x, "ab");
                Expect.same("type(" + Long.toHexString(eight) + ")", x.type(eight), good);
                int length = !good ? 2 : one == 0 ? 9 : 10;
                Expect.same("length after it", Expect.text(x).length(), length);
            }
        }
        Expect.same("type(-1)", x.type(-1L), false);
        Expect.same("type(MIN)", x.type(Long.MIN_VALUE), false);
    }

    private static void keepsTheLimit() {
        StackAssembler x = Expect.typed(Expect.repeat("x", 318));
        Expect.same("three more", x.type(Expect.eight("abc")), false);
        Expect.same("length", Expect.text(x).length(), 318);
        Expect.same("two more among zeros", x.type(0x6100000000000062L), true);
        Expect.same("character(319)", x.character(319), 'b');
        Expect.same("character(320)", (int) x.character(320), 0);
        Expect.same("one more", x.type('c'), false);
        Expect.same("none more", x.type(0), true);
        Expect.same("length", Expect.text(x).length(), 320);
    }

    private static void wipes() {
        StackAssembler x = Expect.typed("(module(func nop))");
        x.assemble();
        x.encode();
        x.wipe();
        Expect.same("text", Expect.text(x), "");
        Expect.same("functions()", x.functions(), 1);
        Expect.same("octet(-1)", x.octet(-1) > 8, true);
        x.type('a');
        Expect.same("text", Expect.text(x), "a");
        x.wipe();
        x.wipe();
        Expect.same("character(0)", (int) x.character(0), 0);
    }
}
