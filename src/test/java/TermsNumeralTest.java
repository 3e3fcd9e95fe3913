import java.math.BigDecimal;
import java.math.BigInteger;

/** A NUMERAL, its VALUE, and what IT IS READ as. */
public final class TermsNumeralTest {
    private static final Check CHECK = new Check();
    private static final String DIGITS = "0123456789";
    private static final long SIGN = 1L << 63;
    private static final long INFINITE = 0x7ff0000000000000L;
    private static final long MOST = 0x7fefffffffffffffL;

    public static void main(String[] args) {
        numeralStarts();
        digitsAreOneOrMore();
        exponentFollows();
        wordsAreWhole();
        withoutBlanks();
        valueOfDecimal();
        exponentAbove99999();
        nearest();
        ofTwoAsNearTheEven();
        infiniteFrom();
        signOfNumeral();
        noNumber();
        CHECK.end();
    }

    /** All that can be typed is tried behind the text: the characters that follow can stand. */
    private static void follow(String text, String following, boolean isNumeral) {
        int end = text.length();
        CHECK.due("wrong place of '" + text + "'", wrongPlace(text),
                isNumeral ? NumberText.NONE : end);
        for (char c = 32; c < 127; c++) {
            boolean stands = following.indexOf(c) >= 0;
            String call = "'" + text + c + "' is wrong at its last character";
            CHECK.due(call, wrongPlace(text + c) == end ? 1 : 0, stands ? 0 : 1);
            if (!stands) {
                // what is behind the first wrong one does not count
                CHECK.due(call + ", with more behind", wrongPlace(text + c + "1x"), end);
            }
        }
    }

    private static int wrongPlace(String text) {
        NumberText x = Use.typed(text);
        try {
            x.read();
            CHECK.due("place() of the numeral '" + text + "'", x.place(), NumberText.NONE);
        } catch (IllegalArgumentException e) {
            CHECK.due("'" + text + "' stays", Use.text(x), text);
        }
        return x.place();
    }

    /** "numeral = [ '+' | '-' ] ( decimal [ exponent ] | 'i' 'n' 'f' ) | 'n' 'a' 'n'". */
    private static void numeralStarts() {
        follow("", DIGITS + "+-.in", false);
        follow("+", DIGITS + ".i", false);
        follow("-", DIGITS + ".i", false);
    }

    /** "decimal = digits [ '.' [ digits ] ] | '.' digits", "digits are one or more". */
    private static void digitsAreOneOrMore() {
        for (String sign : new String[] {"", "+", "-"}) {
            follow(sign + "0", DIGITS + ".eE", true);
            follow(sign + "90", DIGITS + ".eE", true);
            follow(sign + "9.", DIGITS + "eE", true);
            follow(sign + "0.9", DIGITS + "eE", true);
            follow(sign + ".", DIGITS, false);
            follow(sign + ".0", DIGITS + "eE", true);
            follow(sign + ".19", DIGITS + "eE", true);
        }
    }

    /** "exponent = ( 'e' | 'E' ) [ '+' | '-' ] digits". */
    private static void exponentFollows() {
        for (String decimal : new String[] {"1", "-1.", "+1.5", ".5"}) {
            for (String e : new String[] {"e", "E"}) {
                follow(decimal + e, DIGITS + "+-", false);
                follow(decimal + e + "+", DIGITS, false);
                follow(decimal + e + "-", DIGITS, false);
                follow(decimal + e + "0", DIGITS, true);
                follow(decimal + e + "+9", DIGITS, true);
                follow(decimal + e + "-09", DIGITS, true);
            }
        }
    }

    private static void wordsAreWhole() {
        for (String sign : new String[] {"", "+", "-"}) {
            follow(sign + "i", "n", false);
            follow(sign + "in", "f", false);
            follow(sign + "inf", "", true);
        }
        follow("n", "a", false);
        follow("na", "n", false);
        follow("nan", "", true);
    }

    /** "of this grammar without blanks". */
    private static void withoutBlanks() {
        String numeral = "-12.5e+3";
        for (int i = 0; i <= numeral.length(); i++) {
            String text = numeral.substring(0, i) + " " + numeral.substring(i);
            CHECK.due("wrong place of '" + text + "'", wrongPlace(text), i);
        }
        CHECK.due("wrong place of a blank", wrongPlace(" "), 0);
    }

    private static void due(String text, long bits) {
        CHECK.dueBits("read() of " + text, Use.read(text), bits);
    }

    private static void due(String text, double number) {
        due(text, Use.bits(number));
    }

    /** "Its VALUE is that of its decimal, times 10 to the power of its exponent". */
    private static void valueOfDecimal() {
        for (int zeros = 0; zeros < 30; zeros++) {
            String z = "0".repeat(zeros);
            due("125" + z + "e-" + zeros, 125.0);
            due("0." + z + "125e" + (zeros + 3), 125.0);
            due("." + z + "125E+0" + (zeros + 3), 125.0);
            due(z + "125.", 125.0);
            due(z + "125" + z + "." + z + "e-" + z + zeros, 125.0);
            due("125." + z, 125.0);
            due("12.5" + z + "e1", 125.0);
        }
        due("125e0", 125.0);
        due("125e-0", 125.0);
        due("125e+0", 125.0);
        due("0e0", 0L);
        due(".0e-0", 0L);
    }

    /** "one above 99999 counts as 99999": it never wraps around. */
    private static void exponentAbove99999() {
        String[] above = {"99999", "100000", "100001", "2147483647", "2147483648", "4294967295",
            "4294967296", "4294967298", "9223372036854775807", "9223372036854775808",
            "18446744073709551616", "18446744073709551618", "1" + "0".repeat(400)};
        for (String exponent : above) {
            due("1e" + exponent, INFINITE);
            due("-1e+" + exponent, INFINITE | SIGN);
            due("1e-" + exponent, 0L);
            due("-1e-" + exponent, SIGN);
            due("0e" + exponent, 0L);
            due("-0.0e" + exponent, SIGN);
            due("0e-" + exponent, 0L);
            due("." + "0".repeat(600) + "1e" + exponent, INFINITE);
            due("1" + "0".repeat(600) + "e-" + exponent, 0L);
        }
        due("1e000000000000000000000000000000002", 100.0);
        due("1e-00000000000000000000000000000002", 0.01);
        due("1" + "0".repeat(1100) + "e-1098", 100.0);
        due("." + "0".repeat(1100) + "1e1103", 100.0);
    }

    private static BigDecimal halfAbove(long bits) {
        return new BigDecimal(Double.longBitsToDouble(bits))
                .add(new BigDecimal(Double.longBitsToDouble(bits + 1)))
                .divide(BigDecimal.valueOf(2));
    }

    private static final long[] SOME = {0L, 1L, 2L, 0x000ffffffffffffeL, 0x000fffffffffffffL,
        0x0010000000000000L, 0x0010000000000001L, 0x001fffffffffffffL, 0x0020000000000000L,
        0x3cafffffffffffffL, 0x3ff0000000000000L, 0x3fefffffffffffffL, 0x4340000000000000L,
        0x4340000000000001L, 0x433fffffffffffffL, 0x7fdfffffffffffffL, 0x7fe0000000000000L,
        0x7feffffffffffffdL, 0x7feffffffffffffeL};

    /** "the number nearest to its value": a little more or less than half-way tells. */
    private static void nearest() {
        for (long bits : SOME) {
            BigDecimal half = halfAbove(bits);
            BigDecimal little = BigDecimal.ONE.movePointLeft(Math.max(half.scale(), 0) + 1);
            due(half.subtract(little).toPlainString(), bits);
            due(half.add(little).toPlainString(), bits + 1);
            due("-" + half.subtract(little).toPlainString(), bits | SIGN);
            due("-" + half.add(little).toPlainString(), bits + 1 | SIGN);
        }
    }

    /** "of two as near as that whose F is even". */
    private static void ofTwoAsNearTheEven() {
        for (long bits : SOME) {
            String half = halfAbove(bits).toPlainString();
            due(half, bits + (bits & 1));
            due("-" + half, bits + (bits & 1) | SIGN);
        }
        for (int e = 0; e < 2047; e++) {
            long odd = (long) e << 52 | 1;
            due(halfAbove(odd).toPlainString(), odd + 1);
            due(halfAbove(odd + 1).toPlainString(), odd + 1);
        }
        // half-way to the least number, 0 is the even one
        due(halfAbove(0).toPlainString(), 0L);
    }

    /** "as INFINITE, if its value (without sign) is (2^54 - 1) * 2^970 or more". */
    private static void infiniteFrom() {
        BigInteger least = BigInteger.TWO.pow(54).subtract(BigInteger.ONE).shiftLeft(970);
        String below = least.subtract(BigInteger.ONE).toString();
        due(least.toString(), INFINITE);
        due("-" + least, INFINITE | SIGN);
        due(least + "." + "0".repeat(800), INFINITE);
        due(least + "." + "0".repeat(800) + "1", INFINITE);
        due(below, MOST);
        due("-" + below, MOST | SIGN);
        due(below + "." + "9".repeat(1200 - 1 - below.length()), MOST);
        due(least.add(BigInteger.ONE).toString(), INFINITE);
        due("." + least + "e309", INFINITE);
        due("." + below + "e309", MOST);
        due(least + "0".repeat(500) + "e-500", INFINITE);
        due(below + "0".repeat(500) + "e-500", MOST);
        due("0.9e309", INFINITE);
        due("1e309", INFINITE);
        due("1" + "0".repeat(1199), INFINITE);
        due("9".repeat(1195) + "e" + 9999, INFINITE);
        due("1.7976931348623157e308", MOST);
        due("17.9e307", Double.parseDouble("1.79e308"));
    }

    /** "'inf' as INFINITE; its sign is the numeral's ('-': 1, for 0, too)". */
    private static void signOfNumeral() {
        due("inf", INFINITE);
        due("+inf", INFINITE);
        due("-inf", INFINITE | SIGN);
        for (String zero : new String[] {"0", "0.", ".0", "000", "0.000", "0e5", "0e-5", "0E+99999",
            "1e-324", "1e-99999", "2.4703282292062327e-324", "." + "0".repeat(400) + "1"}) {
            due(zero, 0L);
            due("+" + zero, 0L);
            due("-" + zero, SIGN);
        }
        due("+5e-324", 1L);
        due("-5e-324", 1L | SIGN);
    }

    /** "'nan' as the number no number with the bits 7ff8000000000000 (hexadecimal)". */
    private static void noNumber() {
        due("nan", 0x7ff8000000000000L);
        NumberText x = Use.typed("-1");
        x.read();
        Use.type(x, "nan");
        CHECK.dueBits("read() of nan behind -1", x.read(), 0x7ff8000000000000L);
        x.write(-1L);
        CHECK.dueBits("read() of nan as written with a sign", x.read(), 0x7ff8000000000000L);
    }
}
