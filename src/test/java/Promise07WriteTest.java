public final class Promise07WriteTest {
    private static final Check CHECK = new Check();

    public static void main(String[] args) {
        writesShort();
        writesPlainOrScientific();
        writesWithoutDigits();
        writesEdgesOfUnits();
        replacesTheText();
        CHECK.end();
    }

    private static void due(long bits, String text) {
        CHECK.due("write(" + bits + ")", Use.written(x -> x.write(bits)), text);
    }

    private static void due(double number, String text) {
        due(Use.bits(number), text);
    }

    private static void writesShort() {
        due(1.0, "1");
        due(-1.5, "-1.5");
        due(0.1, "0.1");
        due(0.1 + 0.2, "0.30000000000000004");
        due(1.0 / 3, "0.3333333333333333");
        due(2.0 / 3, "0.6666666666666666");
        due(100.0, "100");
        due(120.0, "120");
        due(Math.PI, "3.141592653589793");
        due(1e23, "1e23");
        due(9.5367431640625e-7, "9.5367431640625e-7");
        due(2e-44, "2e-44");
        due(Math.nextUp(1.0), "1.0000000000000002");
        due(Math.nextDown(1.0), "0.9999999999999999");
        due(9007199254740993.0, "9007199254740992");
        due(5e-324 * 2, "1e-323");
        due(5e-324 * 3, "1.5e-323");
    }

    private static void writesPlainOrScientific() {
        due(0.0001, "0.0001");
        due(0.00012345, "0.00012345");
        due(0.00009, "9e-5");
        due(0.000099999, "9.9999e-5");
        due(1e15, "1000000000000000");
        due(9999999999999998.0, "9999999999999998");
        due(1e16, "1e16");
        due(12345678901234568.0, "1.2345678901234568e16");
        due(1.5e16, "1.5e16");
        due(1e100, "1e100");
        due(-2.5e-100, "-2.5e-100");
        due(1234567.25, "1234567.25");
    }

    private static void writesWithoutDigits() {
        due(0.0, "0");
        due(-0.0, "-0");
        due(Double.POSITIVE_INFINITY, "inf");
        due(Double.NEGATIVE_INFINITY, "-inf");
        due(0x7ff8000000000000L, "nan");
        due(0xfff8000000000000L, "nan");
        due(0x7ff0000000000001L, "nan");
        due(-1L, "nan");
        due(Long.MAX_VALUE, "nan");
    }

    private static void writesEdgesOfUnits() {
        due(1L, "5e-324");
        due(0x8000000000000001L, "-5e-324");
        due(0x000fffffffffffffL, "2.225073858507201e-308");
        due(0x0010000000000000L, "2.2250738585072014e-308");
        due(0x0020000000000000L, "4.450147717014403e-308");
        due(0x7fefffffffffffffL, "1.7976931348623157e308");
        due(0x7fe0000000000000L, "8.98846567431158e307");
        // the bounds themselves are read as a number whose F is even
        due(18014398509481992.0, "1.801439850948199e16");
        due(18014398509481988.0, "1.8014398509481988e16");
        due(0x4830f0cf064dd592L, "5.764607523034235e39");
        due(0x4840f0cf064dd592L, "1.152921504606847e40");
        due(0x44b52d02c7e14af6L, "1e23");
        due(0x44b52d02c7e14af7L, "1.0000000000000001e23");
        // the nearest one of the fewest digits is not read as the number: 2^-44, 2^89
        due(Math.scalb(1.0, -44), "5.684341886080802e-14");
        due(Math.scalb(1.0, 89), "6.189700196426902e26");
    }

    private static void replacesTheText() {
        NumberText x = Use.typed("123456789");
        CHECK.due("write(5)", x.write(Use.bits(5)), 1);
        CHECK.due("text", Use.text(x), "5");
        CHECK.due("write(-25)", x.write(Use.bits(-25)), 3);
        CHECK.dueBits("read()", x.read(), Use.bits(-25));
        Use.type(x, "7".repeat(1200));
        CHECK.due("write(longest)", x.write(0x8010000000000000L), 24);
        CHECK.due("text", Use.text(x), "-2.2250738585072014e-308");
        CHECK.due("write(nan)", x.write(-1L), 3);
        CHECK.due("text", Use.text(x), "nan");
        CHECK.due("write(0)", x.write(0), 1);
        CHECK.due("text", Use.text(x), "0");
    }
}
