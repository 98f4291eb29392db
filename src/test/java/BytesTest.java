/** Promises 6 and 7: encode, octet. */
public final class BytesTest {
    private static final String HEADER = "0061736D01000000";

    public static void main(String[] args) {
        wholeModules();
        signatures();
        runs();
        codes();
        signedNumbers();
        sizesOfTwoBytes();
        octets();
        Expect.finish();
    }

    private static void encoded(String text, String due) {
        StackAssembler x = Expect.assembled(text);
        Expect.same("encode of " + text, x.encode(), (HEADER + due).length() / 2);
        Expect.same("bytes of " + text, Expect.bytes(x), HEADER + due);
    }

    /** The code of one function without parameters, result and locals. */
    private static void body(String instructions, String codes) {
        int size = codes.length() / 2 + 2;
        encoded("(module(func " + instructions + "))",
                "010401600000" + "03020100" + String.format("0A%02X01%02X00", size + 2, size) + codes + "0B");
    }

    private static void wholeModules() {
        encoded("(module)", "");
        encoded("(module(func))", "010401600000" + "03020100" + "0A040102000B");
        encoded("(module(func(param i32)(param $x i64)(result i32)local.get 0))",
                "0107" + "0160027F7E017F" + "03020100" + "0A06010400" + "2000" + "0B");
        encoded("(module(func)(func nop))", "010401600000" + "0303020000" + "0A08" + "0202000B" + "0300010B");
    }

    private static void signatures() {
        encoded("(module(func(param i32)unreachable)(func(result i32)unreachable)(func(param i32)unreachable)"
                + "(func(param i64)unreachable))",
                "010D" + "03" + "60017F00" + "6000017F" + "60017E00" + "0305" + "0400010002"
                + "0A11" + "04" + "0300000B0300000B0300000B0300000B");
        encoded("(module(func)(func(result i64)unreachable)(func(result i64)unreachable)(func(param i64 i32)))",
                "010D" + "03" + "600000" + "6000017E" + "60027E7F00" + "0305" + "0400010102"
                + "0A0F" + "04" + "02000B" + "0300000B0300000B" + "02000B");
        // Locals are no part of a signature.
        encoded("(module(func(local i32))(func(local i64)))",
                "010401600000" + "0303020000" + "0A0B02" + "0401017F0B" + "0401017E0B");
    }

    private static void runs() {
        encoded("(module(func(param i32 i32)(local i32 i32)(local)(local i64)(local $x i64)(local i32)))",
                "0106" + "0160027F7F00" + "03020100" + "0A0A01" + "0803" + "027F" + "027E" + "017F" + "0B");
        encoded("(module(func(local i64 i64 i64 i64 i64 i64 i64 i64)))", "010401600000" + "03020100" + "0A0601" + "0401087E0B");
    }

    private static void codes() {
        body("unreachable", "00");
        body("nop", "01");
        body("block end", "02400B");
        body("block(result i32)unreachable end drop", "027F000B1A");
        body("loop(result i64)unreachable end drop", "037E000B1A");
        body("loop end", "03400B");
        body("unreachable if else end", "000440050B");
        body("block br 1 end", "02400C010B");
        body("unreachable br_if 0", "000D00");
        body("return", "0F");
        body("call 0", "1000");
        body("unreachable select drop", "001B1A");
        encoded("(module(func(local i64)local.get 0 local.set 0 unreachable local.tee 0 drop))",
                "010401600000" + "03020100" + "0A0E01" + "0C01017E" + "20002100002200" + "1A0B");
        body("unreachable i32.eqz i32.eq i32.lt_s i32.add i32.sub i32.mul drop", "00454648" + "6A6B6C1A");
        body("unreachable i64.eqz drop i64.eq drop i64.add i64.mul i32.wrap_i64 i64.extend_i32_s drop",
                "00501A511A" + "7C7EA7AC1A");
    }

    private static void signedNumbers() {
        number("i32.const 0", "4100");
        number("i32.const 63", "413F");
        number("i32.const 64", "41C000");
        number("i32.const -1", "417F");
        number("i32.const -64", "4140");
        number("i32.const -65", "41BF7F");
        number("i32.const 127", "41FF00");
        number("i32.const 128", "418001");
        number("i32.const 8191", "41FF3F");
        number("i32.const 8192", "4180C000");
        number("i32.const -8192", "418040");
        number("i32.const -8193", "41FFBF7F");
        number("i32.const 2147483647", "41FFFFFFFF07");
        number("i32.const 2147483648", "418080808078");
        number("i32.const -2147483648", "418080808078");
        number("i32.const 4294967295", "417F");
        number("i64.const 4294967295", "42FFFFFFFF0F");
        number("i64.const 9223372036854775807", "42FFFFFFFFFFFFFFFFFF00");
        number("i64.const -9223372036854775808", "428080808080808080807F");
        number("i64.const 18446744073709551615", "427F");
        number("i64.const 624485", "42E58E26");
        number("i64.const -123456", "42C0BB78");
        number("i64.const 4611686018427387903", "42FFFFFFFFFFFFFFFF3F");
        number("i64.const 4611686018427387904", "428080808080808080C000");
    }

    private static void number(String written, String code) {
        body(written + " drop", code + "1A");
    }

    /** Few texts have so many bytes: sizes from 128 on have two. */
    private static void sizesOfTwoBytes() {
        codeSectionOf("7F", " br 0".repeat(25), "0C00".repeat(25));
        codeSectionOf("8001", " br 0".repeat(25) + " nop", "0C00".repeat(25) + "01");
        codeSectionOf("8101", " br 0".repeat(26), "0C00".repeat(26));
    }

    private static void codeSectionOf(String size, String instructions, String codes) {
        String locals = "(local i32 i64 i32 i64 i32 i64 i32 i64)";
        String runs = "08" + "017F017E".repeat(4);
        encoded("(module(func" + locals + instructions + ")" + ("(func" + locals + ")").repeat(3) + ")",
                "010401600000" + "03050400000000" + "0A" + size + "04"
                + String.format("%02X", 18 + codes.length() / 2) + runs + codes + "0B"
                + ("12" + runs + "0B").repeat(3));
    }

    private static void octets() {
        StackAssembler x = Expect.assembled("(module(func nop))");
        Expect.same("octet(-1) before encode", x.octet(-1), 0);
        Expect.same("octet(0) before encode", x.octet(0), -1);
        x.encode();
        Expect.same("octet(-1)", x.octet(-1), 25);
        Expect.same("octet(24)", x.octet(24), 0x0B);
        int[] beyond = {25, 1023, 1024, 1025, -2, Integer.MIN_VALUE, Integer.MAX_VALUE};
        for (int k : beyond) {
            Expect.same("octet(" + k + ")", x.octet(k), -1);
        }
        Expect.write(x, "(module)");
        x.assemble();
        Expect.same("octet(-1) before it is encoded again", x.octet(-1), 25);
        Expect.same("encode()", x.encode(), 8);
        Expect.same("octet(8)", x.octet(8), -1);
        x = Expect.assembled("(module(func unreachable i32.wrap_i64 drop))");
        x.encode();
        Expect.same("an octet above 127", x.octet(24), 0xA7);
    }
}
