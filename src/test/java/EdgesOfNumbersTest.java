/** The edges of promise 5 that lie in numbers and indexes. */
public final class EdgesOfNumbersTest {
    private static final String[] INDEXED = {"br", "br_if", "call", "local.get", "local.set", "local.tee"};

    public static void main(String[] args) {
        ints();
        intsBeyond();
        longs();
        longsBeyond();
        sameBits();
        signs();
        zerosAhead();
        indexes();
        indexesBeyond();
        noNumbers();
        Expect.finish();
    }

    /** As it stands, and in a folded one. */
    private static void number(String word, String written, long due) {
        StackAssembler x = Expect.assembled("(module(func " + word + " " + written + " drop))");
        Expect.same(word + " " + written, x.immediate(0, 0), due);
        x = Expect.assembled("(module(func(drop(" + word + " " + written + "))))");
        Expect.same("folded " + word + " " + written, x.immediate(0, 0), due);
    }

    private static void noNumber(String word, String written) {
        Expect.malformed("(module(func " + word + " @" + written + " drop))");
        Expect.malformed("(module(func(drop(" + word + " @" + written + "))))");
    }

    private static void ints() {
        Expect.sentence("for i32.const from -2^31 to 2^32 - 1");
        number("i32.const", "-2147483648", Integer.MIN_VALUE);
        number("i32.const", "-2147483647", -2147483647L);
        number("i32.const", "-1", -1L);
        number("i32.const", "0", 0L);
        number("i32.const", "1", 1L);
        number("i32.const", "2147483647", Integer.MAX_VALUE);
        number("i32.const", "+2147483647", Integer.MAX_VALUE);
        number("i32.const", "4294967294", -2L);
        number("i32.const", "4294967295", -1L);
        number("i32.const", "+4294967295", -1L);
    }

    private static void intsBeyond() {
        Expect.sentence("for i32.const from -2^31 to 2^32 - 1");
        String[] beyond = {"-2147483649", "4294967296", "+4294967296", "-4294967295", "-4294967296", "10000000000",
            "-9223372036854775808", "9223372036854775807", "9223372036854775808", "18446744073709551615",
            "18446744073709551616", "-18446744073709551616", "18446744078004518911", "99999999999999999999999"};
        for (String written : beyond) {
            noNumber("i32.const", written);
        }
    }

    private static void longs() {
        Expect.sentence("for i64.const from -2^63 to 2^64 - 1");
        number("i64.const", "-9223372036854775808", Long.MIN_VALUE);
        number("i64.const", "-9223372036854775807", -Long.MAX_VALUE);
        number("i64.const", "-2147483649", -2147483649L);
        number("i64.const", "-1", -1L);
        number("i64.const", "0", 0L);
        number("i64.const", "4294967295", 4294967295L);
        number("i64.const", "4294967296", 4294967296L);
        number("i64.const", "9223372036854775807", Long.MAX_VALUE);
        number("i64.const", "18446744073709551614", -2L);
        number("i64.const", "18446744073709551615", -1L);
        number("i64.const", "+18446744073709551615", -1L);
    }

    private static void longsBeyond() {
        Expect.sentence("for i64.const from -2^63 to 2^64 - 1");
        String[] beyond = {"-9223372036854775809", "-9223372036854775810", "-18446744073709551615",
            "-18446744073709551616", "18446744073709551616", "+18446744073709551616", "18446744073709551617",
            "18446744073709551620", "18446744073709551625", "27670116110564327424", "36893488147419103231",
            "36893488147419103232", "99999999999999999999", "100000000000000000000", "184467440737095516150",
            "340282366920938463463374607431768211456", "-" + "9".repeat(200), "1" + "0".repeat(200)};
        for (String written : beyond) {
            noNumber("i64.const", written);
        }
    }

    private static void sameBits() {
        Expect.sentence("(what is too great for an int or a long counts as what has the same bits)");
        number("i32.const", "2147483648", Integer.MIN_VALUE);
        number("i32.const", "2147483649", Integer.MIN_VALUE + 1L);
        number("i32.const", "3000000000", 3000000000L - (1L << 32));
        number("i64.const", "9223372036854775808", Long.MIN_VALUE);
        number("i64.const", "9223372036854775809", Long.MIN_VALUE + 1L);
        number("i64.const", "18446744073709551610", -6L);
        number("i64.const", "+18446744073709551609", -7L);
        number("i64.const", "2147483648", 2147483648L);
    }

    private static void signs() {
        Expect.sentence("number = digits with - or + or nothing before them");
        for (String word : new String[] {"i32.const", "i64.const"}) {
            number(word, "-0", 0L);
            number(word, "+0", 0L);
            number(word, "+9", 9L);
            number(word, "-9", -9L);
            for (String written : new String[] {"-", "+", "--1", "++1", "+-1", "-+1", "1-", "1+", "- 1", "+ 1", "-x", "+x",
                "-$a"}) {
                noNumber(word, written);
            }
        }
    }

    private static void zerosAhead() {
        Expect.sentence("(zeros ahead do not matter)");
        StackAssembler x = Expect.assembled("(module(func(local i32 i64)local.get " + "0".repeat(200) + "1 drop br 0000))");
        Expect.same("local.get 0..01", x.immediate(0, 0), 1L);
        Expect.same("br 0000", x.immediate(0, 2), 0L);
        Expect.invalid("(module(func br " + "0".repeat(100) + "4294967295))", 0);
        Expect.malformed("(module(func br @" + "0".repeat(100) + "4294967296))");
        number("i32.const", "0".repeat(100) + "4294967295", -1L);
        number("i32.const", "-" + "0".repeat(100) + "2147483648", Integer.MIN_VALUE);
        noNumber("i32.const", "0".repeat(100) + "4294967296");
        number("i64.const", "+" + "0".repeat(100) + "18446744073709551615", -1L);
        noNumber("i64.const", "0".repeat(100) + "18446744073709551616");
    }

    private static void indexes() {
        Expect.sentence("index = a row of digits, below 2^32");
        for (String word : INDEXED) {
            for (String most : new String[] {"4294967295", "4294967294", "2147483648"}) {
                Expect.invalid("(module(func i32.const 1 " + word + " " + most + "))", 1);
                Expect.invalid("(module(func(" + word + " " + most + "(i32.const 1))))", 1);
            }
        }
    }

    private static void indexesBeyond() {
        Expect.sentence("index = a row of digits, below 2^32");
        String[] beyond = {"4294967296", "4294967297", "8589934592", "9223372036854775808", "18446744073709551615",
            "18446744073709551616", "18446744073709551617", "9".repeat(100)};
        for (String word : INDEXED) {
            for (String written : beyond) {
                Expect.malformed("(module(func " + word + " @" + written + "))");
                Expect.malformed("(module(func(" + word + " @" + written + ")))");
            }
        }
    }

    private static void noNumbers() {
        Expect.sentence("with a number behind i32.const and i64.const, an index behind br, br_if, call, local.*.");
        String[] never = {"nop", "0x1", "1_0", "1.0", "1e3", "0a", "/", ":", "a", "(0)", ")", "$", "i32", "1\\"};
        for (String word : INDEXED) {
            for (String written : never) {
                Expect.malformed("(module(func " + word + " @" + written + "))");
            }
            for (String written : new String[] {"-0", "+0", "-1", "+1"}) {
                Expect.malformed("(module(func " + word + " @" + written + "))");
            }
            Expect.malformed("(module(func " + word + " 0 @0))");
        }
        for (String word : new String[] {"i32.const", "i64.const"}) {
            for (String written : never) {
                Expect.malformed("(module(func " + word + " @" + written + "))");
            }
            noNumber(word, "$a");
            Expect.malformed("(module(func " + word + " 0 @0))");
        }
        for (String word : new String[] {"nop", "unreachable", "return", "drop", "select", "i32.add", "i64.eqz"}) {
            Expect.malformed("(module(func " + word + " @0))");
            Expect.malformed("(module(func(" + word + " @0)))");
            Expect.malformed("(module(func " + word + " @$a))");
        }
    }
}
