/** The edges of promises 6 and 7: encode, octet. */
public final class EdgesOfBytesTest {
    private static final String HEADER = "0061736D01000000";
    private static final String NO_SIGNATURE = "010401600000";
    private static final String EIGHT_RUNS = "(local i32 i64 i32 i64 i32 i64 i32 i64)";
    private static final String EIGHT_RUNS_BYTES = "08" + "017F017E".repeat(4);

    public static void main(String[] args) {
        withoutFunctions();
        signatures();
        signaturesOfAllSizes();
        signatureNumbers();
        runs();
        results();
        bodies();
        unsignedOfOneByte();
        unsignedOfTwoBytes();
        functionOf127Bytes();
        functionOf128Bytes();
        signedIntsAtEachByte();
        signedLongsAtEachByte();
        signedEnds();
        becomes();
        becomesOthers();
        octets();
        Expect.finish();
    }

    private static void encoded(String text, String due) {
        StackAssembler x = Expect.assembled(text);
        Expect.same("encode of " + text, x.encode(), (HEADER + due).length() / 2);
        Expect.same("octet(-1) of " + text, x.octet(-1), (HEADER + due).length() / 2);
        Expect.same("bytes of " + text, Expect.bytes(x), HEADER + due);
    }

    private static String hex(int octet) {
        return String.format("%02X", octet);
    }

    /** A section, or a function, of less than 128 bytes. */
    private static String sized(String content) {
        return hex(content.length() / 2) + content;
    }

    private static void withoutFunctions() {
        Expect.sentence("then, if there are functions, SECTIONS");
        encoded("(module)", "");
        Expect.same("encode() of a new object", new StackAssembler().encode(), 8);
        encoded("(module(func))", NO_SIGNATURE + "03020100" + "0A040102000B");
    }

    private static void signatures() {
        Expect.sentence("1: the SIGNATURES that differ, in the order of the functions that have them first");
        String body = "(unreachable))";
        String code = "0A1104" + "0300000B".repeat(4);
        encoded("(module" + ("(func(param i32)" + body).repeat(4) + ")", "01050160017F00" + "03050400000000" + code);
        encoded("(module(func(param i64)" + body + "(func(param i32)" + body + "(func(result i64)" + body + "(func" + body + ")",
                "0110" + "04" + "60017E00" + "60017F00" + "6000017E" + "600000" + "03050400010203" + code);
        // They differ by the number of the parameters, by each of their types and by the result.
        encoded("(module(func(param i32 i32)" + body + "(func(param i32)" + body + "(func(param i32 i64)" + body
                + "(func(param i64 i32)" + body + ")",
                "0114" + "04" + "60027F7F00" + "60017F00" + "60027F7E00" + "60027E7F00" + "03050400010203" + code);
        encoded("(module(func(result i32)" + body + "(func(result i64)" + body + "(func" + body + "(func(result i32)" + body
                + ")", "010C" + "03" + "6000017F" + "6000017E" + "600000" + "03050400010200" + code);
    }

    private static void signaturesOfAllSizes() {
        Expect.sentence("60, how many parameters, their types (7F is I, 7E J), how many results (0 or 1), its type");
        for (int many = 0; many <= 6; many++) {
            String params = "(param" + " i32 i64 i64 i32 i64 i32".substring(0, 4 * many) + ")";
            String types = hex(many) + "7F7E7E7F7E7F".substring(0, 2 * many);
            String code = "03020100" + "0A05010300000B";
            encoded("(module(func" + params + "unreachable))", "01" + sized("0160" + types + "00") + code);
            encoded("(module(func" + params + "(result i32)unreachable))", "01" + sized("0160" + types + "017F") + code);
            encoded("(module(func" + params + "(result i64)unreachable))", "01" + sized("0160" + types + "017E") + code);
        }
    }

    private static void signatureNumbers() {
        Expect.sentence("3: for each function the number of its signature");
        for (int many = 1; many <= 4; many++) {
            String code = "0A" + sized(hex(many) + "02000B".repeat(many));
            encoded("(module" + "(func)".repeat(many) + ")", NO_SIGNATURE + "03" + sized(hex(many) + "00".repeat(many)) + code);
        }
        encoded("(module(func)(func(param i32))(func)(func(param i32)))",
                "0108" + "02" + "600000" + "60017F00" + "03050400010001" + "0A0D04" + "02000B".repeat(4));
    }

    private static void runs() {
        Expect.sentence("how many RUNS, for each the number and the type of locals (no parameters) of one type side by side");
        local("", "00");
        local("(local)", "00");
        local("(local i32)", "01017F");
        local("(local i64)", "01017E");
        for (int many = 1; many <= 8; many++) {
            local("(local" + " i64".repeat(many) + ")", "01" + hex(many) + "7E");
            local("(local i32)".repeat(many), "01" + hex(many) + "7F");
        }
        local("(local i32 i64 i32 i64 i32 i64 i32 i64)", "08" + "017F017E".repeat(4));
        local("(local i32 i32 i64 i64 i64 i32)", "03" + "027F037E017F");
        local("(local i32)(local)(local $x i32)(local i64)(local $y i64)", "02" + "027F027E");
        encoded("(module(func(param i64 i32)(local i32)(local i64)))",
                "01060160027E7F00" + "03020100" + "0A" + sized("01" + sized("02" + "017F017E" + "0B")));
        encoded("(module(func(param i32 i32 i32 i32 i32 i32)))",
                "010A0160067F7F7F7F7F7F00" + "03020100" + "0A" + sized("01" + sized("00" + "0B")));
        encoded("(module(func(param i32 i32 i32 i32 i32 i32)(local i32 i32)))",
                "010A0160067F7F7F7F7F7F00" + "03020100" + "0A" + sized("01" + sized("01" + "027F" + "0B")));
    }

    private static void local(String locals, String runs) {
        encoded("(module(func" + locals + "))", NO_SIGNATURE + "03020100" + "0A" + sized("01" + sized(runs + "0B")));
    }

    /** One function without parameters, result and locals, of less than 128 bytes. */
    private static void body(String instructions, String codes) {
        encoded("(module(func " + instructions + "))",
                NO_SIGNATURE + "03020100" + "0A" + sized("01" + sized("00" + codes + "0B")));
    }

    private static void results() {
        Expect.sentence("the codes with their immediates (of a result 40, 7F, 7E); 0B.");
        for (String opening : new String[] {"block", "loop", "if"}) {
            String code = opening.equals("block") ? "02" : opening.equals("loop") ? "03" : "04";
            String rest = opening.equals("if") ? " unreachable else unreachable end" : " unreachable end";
            String restCodes = opening.equals("if") ? "0005000B" : "000B";
            body("unreachable " + opening + rest, "00" + code + "40" + restCodes);
            body("unreachable " + opening + "(result i32)" + rest + " drop", "00" + code + "7F" + restCodes + "1A");
            body("unreachable " + opening + "(result i64)" + rest + " drop", "00" + code + "7E" + restCodes + "1A");
        }
        body("", "");
        body("block end", "02400B");
    }

    private static void bodies() {
        Expect.sentence("10: for each function the size of what follows");
        encoded("(module(func)(func nop)(func nop nop)(func nop nop nop))",
                NO_SIGNATURE + "03050400000000" + "0A" + sized("04" + "02000B" + "0300010B" + "040001010B" + "05000101010B"));
        body(" nop".repeat(64), "01".repeat(64));
        body(" block".repeat(10) + " br 10 br 9" + " end".repeat(10), "0240".repeat(10) + "0C0A0C09" + "0B".repeat(10));
        encoded("(module(func call 3 call 2)(func call 0)(func)(func call 1))", NO_SIGNATURE + "03050400000000" + "0A"
                + sized("04" + sized("00100310020B") + sized("0010000B") + sized("000B") + sized("0010010B")));
        encoded("(module(func(local" + " i64".repeat(8) + ")local.get 7 local.tee 6 local.set 0))", NO_SIGNATURE + "03020100"
                + "0A" + sized("01" + sized("01087E" + "200722062100" + "0B")));
    }

    private static void unsignedOfOneByte() {
        Expect.sentence("Numbers are LEB128: seven bits a byte, the lowest first, 128 more on all but the last; unsigned");
        // Sizes of 63 to 127 are in one byte, though the highest of its seven bits is set.
        for (int brs = 29; brs <= 61; brs++) {
            body(" br 0".repeat(brs), "0C00".repeat(brs));
        }
        for (int nops = 58; nops <= 64; nops++) {
            body(" nop".repeat(nops), "01".repeat(nops));
        }
    }

    private static void unsignedOfTwoBytes() {
        Expect.sentence("128 more on all but the last; unsigned");
        // Four functions with locals of eight runs: the section reaches 128 bytes while each function is far below.
        String locals = EIGHT_RUNS;
        String runs = EIGHT_RUNS_BYTES;
        for (int nops = 0; nops <= 1; nops++) {
            for (int brs = 20; brs + nops <= 26; brs++) {
                String codes = "0C00".repeat(brs) + "01".repeat(nops);
                int size = 1 + 19 + codes.length() / 2 + 3 * 19;
                // Of 128 to 255 the lowest seven bits and 128 more are the number itself.
                String written = hex(size) + (size < 128 ? "" : "01");
                encoded("(module(func" + locals + " br 0".repeat(brs) + " nop".repeat(nops) + ")"
                        + ("(func" + locals + ")").repeat(3) + ")",
                        NO_SIGNATURE + "03050400000000" + "0A" + written + "04" + sized(runs + codes + "0B")
                        + sized(runs + "0B").repeat(3));
            }
        }
    }

    private static String longFunction(int brs, int ifs) {
        return "(module(func" + EIGHT_RUNS + "br 0" + " br 0".repeat(brs - 1) + " if end".repeat(ifs) + "))";
    }

    /** What follows the size of such a function. */
    private static String longBody(int brs, int ifs) {
        return EIGHT_RUNS_BYTES + "0C00".repeat(brs) + "04400B".repeat(ifs) + "0B";
    }

    private static void functionOf127Bytes() {
        Expect.sentence("10: for each function the size of what follows");
        String body = longBody(32, 15);
        Expect.same("the size of the function", body.length() / 2, 127);
        encoded(longFunction(32, 15), NO_SIGNATURE + "03020100" + "0A" + "8101" + "01" + "7F" + body);
    }

    private static void functionOf128Bytes() {
        Expect.sentence("10: for each function the size of what follows");
        String text = longFunction(31, 16);
        String body = longBody(31, 16);
        Expect.same("the length of the text", text.length(), 319);
        Expect.same("the size of the function", body.length() / 2, 128);
        encoded(text, NO_SIGNATURE + "03020100" + "0A" + "8301" + "01" + "8001" + body);
        StackAssembler x = Expect.assembled(text);
        Expect.same("how many instructions", x.function(0, 3), 63);
        Expect.same("encode()", x.encode(), 152);
        Expect.same("octet(-1)", x.octet(-1), 152);
        Expect.same("octet(19), of the section's size", x.octet(19), 0x83);
        Expect.same("octet(20), of the section's size", x.octet(20), 0x01);
        Expect.same("octet(22), of the function's size", x.octet(22), 0x80);
        Expect.same("octet(23), of the function's size", x.octet(23), 0x01);
        Expect.same("octet(151), the last one", x.octet(151), 0x0B);
        Expect.same("octet(152)", x.octet(152), -1);
        Expect.same("print()", x.print(), 320);
        Expect.same("what is printed", Expect.text(x), text.replace(")br 0", ") br 0"));
        Expect.same("assemble of what is printed", Expect.outcome(x), "fine 1");
        Expect.same("encode() of what is printed", x.encode(), 152);
    }

    private static void number(String word, long value, String code) {
        body(word + " " + value + " drop", code + "1A");
    }

    private static void signedIntsAtEachByte() {
        Expect.sentence("but those of i32.const and i64.const are signed "
                + "(the highest of the last one's seven bits is the sign), each in as few bytes as can be.");
        for (int n = 1; n <= 4; n++) {
            atByte("i32.const", "41", n);
        }
    }

    private static void signedLongsAtEachByte() {
        Expect.sentence("but those of i32.const and i64.const are signed "
                + "(the highest of the last one's seven bits is the sign), each in as few bytes as can be.");
        for (int n = 1; n <= 9; n++) {
            atByte("i64.const", "42", n);
        }
    }

    /** The last numbers, above and below zero, that n bytes hold, and the first ones that need one more. */
    private static void atByte(String word, String code, int n) {
        long first = 1L << 7 * n - 1;
        number(word, first - 1, code + "FF".repeat(n - 1) + "3F");
        number(word, first, code + "80".repeat(n - 1) + "C000");
        number(word, -first, code + "80".repeat(n - 1) + "40");
        number(word, -first - 1, code + "FF".repeat(n - 1) + "BF7F");
    }

    private static void signedEnds() {
        Expect.sentence("each in as few bytes as can be.");
        number("i32.const", 0, "4100");
        number("i32.const", -1, "417F");
        number("i32.const", 1, "4101");
        number("i32.const", Integer.MAX_VALUE, "41FFFFFFFF07");
        number("i32.const", Integer.MIN_VALUE, "418080808078");
        number("i32.const", 4294967295L, "417F");
        number("i32.const", 2147483648L, "418080808078");
        number("i64.const", 0, "4200");
        number("i64.const", -1, "427F");
        number("i64.const", 2147483648L, "428080808008");
        number("i64.const", 4294967295L, "42FFFFFFFF0F");
        number("i64.const", Long.MAX_VALUE, "42" + "FF".repeat(9) + "00");
        number("i64.const", Long.MIN_VALUE, "42" + "80".repeat(9) + "7F");
        body("i64.const 18446744073709551615 drop", "427F1A");
        body("i64.const 9223372036854775808 drop", "42" + "80".repeat(9) + "7F1A");
    }

    private static void becomes() {
        Expect.sentence("The bytes become those of the module: how many they are.");
        StackAssembler x = Expect.assembled("(module(func nop nop nop))");
        Expect.same("octet(-1) before encode()", x.octet(-1), 0);
        Expect.same("encode()", x.encode(), 27);
        Expect.same("encode() again", x.encode(), 27);
        Expect.write(x, "(module(func))");
        x.assemble();
        Expect.same("octet(-1) before the next encode()", x.octet(-1), 27);
        Expect.same("encode() of a shorter module", x.encode(), 24);
        Expect.same("octet(23)", x.octet(23), 0x0B);
        Expect.same("octet(24), of the longer module", x.octet(24), -1);
        Expect.write(x, "(module)");
        x.assemble();
        Expect.same("encode() of the shortest module", x.encode(), 8);
        Expect.same("octet(8)", x.octet(8), -1);
    }

    /** What an earlier module left in the rows that are used again must not be seen. */
    private static void becomesOthers() {
        Expect.sentence("The bytes become those of the module: how many they are.");
        StackAssembler x = Expect.assembled("(module(func)(func(param i32))(func(param i64))(func(param i32 i64)))");
        Expect.same("encode() of four signatures", x.encode(), 49);
        String[] texts = {"(module(func))", "(module(func(param i64))(func))", "(module(func)(func)(func))"};
        String[] due = {NO_SIGNATURE + "03020100" + "0A040102000B",
            "01080260017E00600000" + "0303020001" + "0A0702" + "02000B".repeat(2),
            NO_SIGNATURE + "030403000000" + "0A0A03" + "02000B".repeat(3)};
        for (int n = 0; n < texts.length; n++) {
            Expect.write(x, texts[n]);
            x.assemble();
            Expect.same("encode of " + texts[n], x.encode(), (HEADER + due[n]).length() / 2);
            Expect.same("bytes of " + texts[n], Expect.bytes(x), HEADER + due[n]);
        }
    }

    private static void octets() {
        Expect.sentence("Byte k; how many there are for k = -1; -1 when there is none.");
        StackAssembler x = new StackAssembler();
        int[] none = {0, 1, -2, Integer.MIN_VALUE, Integer.MAX_VALUE};
        for (int k : none) {
            Expect.same("octet(" + k + ") of no bytes", x.octet(k), -1);
        }
        Expect.same("octet(-1) of no bytes", x.octet(-1), 0);
        Expect.write(x, "(module(func unreachable i32.wrap_i64 i64.extend_i32_s drop))");
        x.assemble();
        Expect.same("encode()", x.encode(), 28);
        Expect.same("octet(-1)", x.octet(-1), 28);
        Expect.same("octet(0)", x.octet(0), 0);
        Expect.same("octet(24)", x.octet(24), 0xA7);
        Expect.same("octet(25)", x.octet(25), 0xAC);
        Expect.same("octet(27)", x.octet(27), 0x0B);
        int[] beyond = {28, 29, 255, 256, 1023, 1024, 1025, -2, -3, Integer.MIN_VALUE, Integer.MAX_VALUE};
        for (int k : beyond) {
            Expect.same("octet(" + k + ")", x.octet(k), -1);
        }
    }
}
