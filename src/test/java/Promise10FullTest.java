import java.math.BigDecimal;

public final class Promise10FullTest {
    private static final Check CHECK = new Check();

    public static void main(String[] args) {
        writesInFull();
        writesLongest();
        writesWithoutDigits();
        replacesTheText();
        CHECK.end();
    }

    private static void due(double number, String text) {
        CHECK.due("full(" + number + ")", Use.written(x -> x.full(Use.bits(number))), text);
    }

    private static void writesInFull() {
        due(1.0, "1");
        due(10.0, "10");
        due(-1200.0, "-1200");
        due(0.5, "0.5");
        due(-0.0625, "-0.0625");
        due(3.75, "3.75");
        due(0.1, "0.1000000000000000055511151231257827021181583404541015625");
        due(1e16, "10000000000000000");
        due(1e23, "99999999999999991611392");
        due(1234567.25, "1234567.25");
        due(Math.scalb(1.0, -20), "0.00000095367431640625");
    }

    private static void writesLongest() {
        due(Double.MAX_VALUE, new BigDecimal(Double.MAX_VALUE).toPlainString());
        due(-Double.MIN_VALUE, "-" + new BigDecimal(Double.MIN_VALUE).toPlainString());
        double longest = Double.longBitsToDouble(0x001fffffffffffffL);
        due(-longest, "-" + new BigDecimal(longest).toPlainString());
        NumberText x = new NumberText();
        CHECK.due("full(-longest)", x.full(Use.bits(-longest)), 1077);
        CHECK.due("character(1076)", x.character(1076), '5');
        CHECK.due("character(1077)", x.character(1077), NumberText.NONE);
    }

    private static void writesWithoutDigits() {
        due(0.0, "0");
        due(-0.0, "-0");
        due(Double.POSITIVE_INFINITY, "inf");
        due(Double.NEGATIVE_INFINITY, "-inf");
        due(Double.NaN, "nan");
        CHECK.due("nan with a sign", Use.written(x -> x.full(-1L)), "nan");
    }

    private static void replacesTheText() {
        NumberText x = Use.typed("123456789");
        CHECK.due("full(2.5)", x.full(Use.bits(2.5)), 3);
        CHECK.due("text", Use.text(x), "2.5");
        CHECK.due("full(4)", x.full(Use.bits(4)), 1);
        CHECK.due("text", Use.text(x), "4");
        x.wipe();
        Use.type(x, "7".repeat(1200));
        CHECK.due("full(-longest) in place of 1200", x.full(0x801fffffffffffffL), 1077);
        CHECK.dueBits("read() of it", x.read(), 0x801fffffffffffffL);
        CHECK.due("character(0)", x.character(0), NumberText.NONE);
    }
}
