import java.math.BigDecimal;
import java.math.BigInteger;

public final class Promise05ReadTest {
    private static final Check CHECK = new Check();
    private static final long INFINITE = 0x7ff0000000000000L;
    private static final long SIGN = 0x8000000000000000L;

    public static void main(String[] args) {
        readsEveryForm();
        readsNearest();
        readsHalvesAsEven();
        readsInfinite();
        readsTiny();
        readsLongTexts();
        readsLongExponents();
        emptiesTheText();
        refusesWhatIsNoNumeral();
        CHECK.end();
    }

    private static void due(String text, long bits) {
        CHECK.dueBits("read() of " + text, Use.read(text), bits);
    }

    private static void due(String text, double number) {
        due(text, Use.bits(number));
    }

    private static void readsEveryForm() {
        due("0", 0L);
        due("+0", 0L);
        due("-0", SIGN);
        due("-0.000e9", SIGN);
        due("-.0", SIGN);
        due("7", 7.0);
        due("007", 7.0);
        due("+12", 12.0);
        due("-12", -12.0);
        due("1.", 1.0);
        due("1.5", 1.5);
        due(".5", 0.5);
        due("+.5", 0.5);
        due("-.5e1", -5.0);
        due("1.e2", 100.0);
        due("1E+2", 100.0);
        due("25e-2", 0.25);
        due("-1.5E-003", -0.0015);
        due("inf", INFINITE);
        due("+inf", INFINITE);
        due("-inf", INFINITE | SIGN);
        due("nan", 0x7ff8000000000000L);
    }

    private static void readsNearest() {
        due("0.1", 0x3fb999999999999aL);
        due("-0.3", -0.3);
        due("123456789012345678", 0x437b69b4ba630f35L);
        due("3.141592653589793238462643383279", Math.PI);
        due("2.2250738585072011e-308", 0x000fffffffffffffL);
        due("2.2250738585072012e-308", 0x0010000000000000L);
        due("6.0221408e+23", 6.0221408e23);
        due("1e22", 1e22);
        due("1e23", 0x44b52d02c7e14af6L);
        due("8.5e-300", 8.5e-300);
        due("9007199254740993.0000000000001", 0x4340000000000001L);
        due("9007199254740992.9999999999999", 0x4340000000000000L);
    }

    private static void readsHalvesAsEven() {
        due("9007199254740993", 0x4340000000000000L);
        due("9007199254740995", 0x4340000000000002L);
        due("18014398509481983", 0x4350000000000000L);
        due("0.50000000000000005551115123125782702118158340454101562500", 0x3fe0000000000000L);
        due("0.50000000000000005551115123125782702118158340454101562501", 0x3fe0000000000001L);
        due("0.500000000000000166533453693773481063544750213623046875", 0x3fe0000000000002L);
        // half-way below a power of 2, where the unit changes
        due(half(0x3fefffffffffffffL), 0x3ff0000000000000L);
        due(half(0x000fffffffffffffL), 0x0010000000000000L);
        due(half(0x0010000000000000L), 0x0010000000000000L);
        due(half(0x0000000000000001L), 0x0000000000000002L);
        due(half(0x7feffffffffffffeL), 0x7feffffffffffffeL);
    }

    private static BigDecimal between(long bits) {
        return new BigDecimal(Double.longBitsToDouble(bits))
                .add(new BigDecimal(Double.longBitsToDouble(bits + 1)))
                .divide(BigDecimal.valueOf(2));
    }

    private static String half(long bits) {
        return between(bits).toPlainString();
    }

    private static void readsInfinite() {
        BigInteger least = BigInteger.TWO.pow(54).subtract(BigInteger.ONE).shiftLeft(970);
        long most = 0x7fefffffffffffffL;
        due(least.toString(), INFINITE);
        due("-" + least, INFINITE | SIGN);
        due(least + ".000", INFINITE);
        due(least + ".0001", INFINITE);
        due(least.subtract(BigInteger.ONE).toString(), most);
        due("-" + least.subtract(BigInteger.ONE) + ".9999999999", most | SIGN);
        due("1.7976931348623157e308", most);
        due("1.7976931348623158e308", most);
        due("1.7976931348623159e308", INFINITE);
        due("1.8e308", INFINITE);
        due("3.5e308", INFINITE);
        due("7e308", INFINITE);
        due("1e309", INFINITE);
        due("9e310", INFINITE);
        due("-1e400", INFINITE | SIGN);
        due("0." + "0".repeat(100) + "1e409", 1e308);
        due("0." + "0".repeat(100) + "1e410", INFINITE);
    }

    private static void readsTiny() {
        BigDecimal half = new BigDecimal(Double.MIN_VALUE).divide(BigDecimal.valueOf(2));
        BigDecimal little = BigDecimal.ONE.movePointLeft(1150);
        due(half.toPlainString(), 0L);
        due("-" + half.toPlainString(), SIGN);
        due(half.add(little).toPlainString(), 1L);
        due(half.subtract(little).toPlainString(), 0L);
        due("5e-324", 1L);
        due("2.4703282292062327e-324", 0L);
        due("2.4703282292062328e-324", 1L);
        due("1e-324", 0L);
        due("9.9e-325", 0L);
        due("-1e-400", SIGN);
        due("1" + "0".repeat(300) + "e-600", 1e-300);
        due("1" + "0".repeat(300) + "e-624", 0L);
        due("3" + "0".repeat(300) + "e-624", 1L);
    }

    private static void readsLongTexts() {
        due("1" + "0".repeat(1199), INFINITE);
        due("0".repeat(1199) + "7", 7.0);
        due("0." + "0".repeat(1197) + "7", 0L);
        due("1" + "0".repeat(1194) + "e-999", 1e195);
        due("." + "0".repeat(1193) + "1e1200", 1e6);
        due("9".repeat(300) + "." + "9".repeat(899), 1e300);
        due("9007199254740993." + "0".repeat(1182) + "1", 0x4340000000000001L);
        due("9007199254740993." + "0".repeat(1183), 0x4340000000000000L);
        due("." + "3".repeat(1199), 1.0 / 3);
        // only the last place tells that it is more than half-way
        String large = half(0x7feffffffffffffcL) + ".";
        due(large + "0".repeat(1200 - large.length()), 0x7feffffffffffffcL);
        due(large + "0".repeat(1199 - large.length()) + "1", 0x7feffffffffffffdL);
        due("-" + "4".repeat(1194) + "e-890", -4.444444444444444444e303);
    }

    private static void readsLongExponents() {
        due("1e99999", INFINITE);
        due("1e100000", INFINITE);
        due("1e4294967296", INFINITE);
        due("1e-4294967296", 0L);
        due("-1e-99999999999999999999", SIGN);
        due("1e" + "9".repeat(1198), INFINITE);
        due("0e" + "9".repeat(1198), 0L);
        due("0.0e99999", 0L);
        due("1e" + "0".repeat(1197) + "2", 100.0);
        due("1e-" + "0".repeat(1196) + "2", 0.01);
        due("0." + "0".repeat(1190) + "1e99999", INFINITE);
    }

    private static void emptiesTheText() {
        NumberText x = Use.typed("1.25");
        CHECK.dueBits("read()", x.read(), Use.bits(1.25));
        CHECK.due("character(0)", x.character(0), NumberText.NONE);
        CHECK.due("wipe()", x.wipe(), 0);
        CHECK.dueThrow("read() again", IllegalArgumentException.class, x::read);
        CHECK.due("place()", x.place(), 0);
        Use.type(x, "-1e2");
        CHECK.dueBits("read() of the next", x.read(), Use.bits(-100));
        Use.type(x, "3");
        CHECK.dueBits("nothing of it is left", x.read(), Use.bits(3));
        Use.type(x, "25e-2");
        CHECK.dueBits("read() of the next", x.read(), Use.bits(0.25));
        Use.type(x, "1e2");
        CHECK.dueBits("nothing of it is left", x.read(), Use.bits(100));
        Use.type(x, "-inf");
        CHECK.dueBits("read() of the next", x.read(), INFINITE | SIGN);
        Use.type(x, "nan");
        CHECK.dueBits("nothing of it is left", x.read(), 0x7ff8000000000000L);
    }

    private static void refuses(String text, int place) {
        NumberText x = Use.typed(text);
        CHECK.dueThrow("read() of " + text, IllegalArgumentException.class, x::read);
        CHECK.due("place() of " + text, x.place(), place);
        CHECK.due("the text stays", Use.text(x), text);
        CHECK.due("wipe()", x.wipe(), text.length());
    }

    private static void refusesWhatIsNoNumeral() {
        refuses("", 0);
        refuses("+", 1);
        refuses("-", 1);
        refuses(".", 1);
        refuses("-.", 2);
        refuses(".e1", 1);
        refuses("e1", 0);
        refuses("++1", 1);
        refuses("1+", 1);
        refuses("1e", 2);
        refuses("1e+", 3);
        refuses("1e+-1", 3);
        refuses("1e5.", 3);
        refuses("1e5e", 3);
        refuses("1.5.", 3);
        refuses("1..", 2);
        refuses(" 1", 0);
        refuses("1 ", 1);
        refuses("1 2", 1);
        refuses("1,5", 1);
        refuses("0x1", 1);
        refuses("1.5x", 3);
        refuses("1f", 1);
        refuses("i", 1);
        refuses("in", 2);
        refuses("+in", 3);
        refuses("inx", 2);
        refuses("inff", 3);
        refuses("infe1", 3);
        refuses("Inf", 0);
        refuses("iNf", 1);
        refuses("n", 1);
        refuses("na", 2);
        refuses("nann", 3);
        refuses("NaN", 0);
        refuses("-nan", 1);
        refuses("+nan", 1);
        refuses("1inf", 1);
        refuses(".inf", 1);
        refuses("1".repeat(300) + "e", 301);
    }
}
