/** A DECIMAL, SHORT, ROUNDED, PLAIN and SCIENTIFIC. */
public final class TermsDecimalTest {
    private static final Check CHECK = new Check();

    public static void main(String[] args) {
        shortHasFewestDigits();
        shortCountsBoundsOfEvenF();
        shortWhereUnitChanges();
        shortIsNearestOfSeveral();
        shortOfTwoIsEven();
        roundedIsNearest();
        roundedOfTwoIsEven();
        roundedHasAllDigits();
        roundedGoesToNextPoint();
        plainFromMinus3To16();
        plainByPoint();
        plainOrNotIsAskedOfTheRounded();
        scientificPoint();
        scientificExponent();
        CHECK.end();
    }

    private static void write(long bits, String text) {
        CHECK.due("write(" + Long.toHexString(bits) + ")", Use.written(x -> x.write(bits)), text);
        long below = bits | 1L << 63;
        CHECK.due("write(" + Long.toHexString(below) + ")", Use.written(x -> x.write(below)),
                "-" + text);
    }

    private static void write(double number, String text) {
        write(Use.bits(number), text);
    }

    private static void digits(double number, int n, String text) {
        CHECK.due("digits(" + number + ", " + n + ")",
                Use.written(x -> x.digits(Use.bits(number), n)), text);
        CHECK.due("digits(" + -number + ", " + n + ")",
                Use.written(x -> x.digits(Use.bits(-number), n)), "-" + text);
    }

    /** "the fewest digits that a decimal can have which is read as v": 1 to 17. */
    private static void shortHasFewestDigits() {
        for (int n = 1; n <= 15; n++) {
            String digits = "1234567891234567".substring(0, n);
            write(Double.parseDouble("0." + digits), "0." + digits);
            write(Double.parseDouble(digits + "e-200"), scientific(digits, n - 1 - 200));
            write(Double.parseDouble(digits + "e200"), scientific(digits, n - 1 + 200));
        }
        write(0.3, "0.3");
        write(Math.nextUp(0.3), "0.30000000000000004");
        write(Math.nextDown(0.3), "0.29999999999999993");
        write(9007199254740991.0, "9007199254740991");
        write(0x1.fffffffffffffp-1, "0.9999999999999999");
        write(0x0010000000000001L, "2.225073858507202e-308");
        write(0x7feffffffffffffeL, "1.7976931348623155e308");
    }

    private static String scientific(String digits, int exponent) {
        return digits.charAt(0) + (digits.length() > 1 ? "." + digits.substring(1) : "")
                + "e" + exponent;
    }

    /** What is half-way to a neighbour is read as v if its F is even, and only then. */
    private static void shortCountsBoundsOfEvenF() {
        // units of 4: half-way is 2 below or above
        write(18014398509481992.0, "1.801439850948199e16");
        write(18014398509482008.0, "1.801439850948201e16");
        write(18014398509481988.0, "1.8014398509481988e16");
        write(18014398509482012.0, "1.8014398509482012e16");
        // 1e23 is half-way between these two
        write(0x44b52d02c7e14af6L, "1e23");
        write(0x44b52d02c7e14af7L, "1.0000000000000001e23");
        write(9e23, "9e23");
    }

    /** Below a power of 2 the neighbour is half as far, but not where E goes from 1 to 0. */
    private static void shortWhereUnitChanges() {
        for (int power : new int[] {-1074, -1073, -1023, -1022, -1021, -1020, -44, -24, -1, 1, 53,
            54, 55, 89, 100, 1000, 1022, 1023}) {
            double number = Math.scalb(1.0, power);
            write(number, Oracle.write(number));
            write(Math.nextUp(number), Oracle.write(Math.nextUp(number)));
            if (power > -1074) {
                write(Math.nextDown(number), Oracle.write(Math.nextDown(number)));
            }
        }
        // the nearest decimal of the fewest digits lies below the nearer bound
        write(Math.scalb(1.0, -44), "5.684341886080802e-14");
        write(Math.scalb(1.0, 89), "6.189700196426902e26");
        write(0x0010000000000000L, "2.2250738585072014e-308");
    }

    /** "of several such it is the nearest one to v". */
    private static void shortIsNearestOfSeveral() {
        // 3e-324 to 7e-324 are all read as the least number
        write(1L, "5e-324");
        // 8e-324 to 1.2e-323
        write(2L, "1e-323");
        write(3L, "1.5e-323");
        write(4L, "2e-323");
        write(5L, "2.5e-323");
        write(6L, "3e-323");
        write(20L, "1e-322");
        // two, of 17 digits, one nearer
        write(2251799813685248.5, "2251799813685248.5");
        write(4503599627370495.5, "4503599627370495.5");
        write(Math.nextUp(1.0), "1.0000000000000002");
        write(2e-323, "2e-323");
    }

    /** "of two as near the one whose last digit is even". */
    private static void shortOfTwoIsEven() {
        write(1125899906842624.25, "1125899906842624.2");
        write(1125899906842624.75, "1125899906842624.8");
        write(2251799813685247.25, "2251799813685247.2");
        write(2251799813685247.75, "2251799813685247.8");
        write(600000000000000.25, "600000000000000.2");
        write(600000000000000.75, "600000000000000.8");
        write(999999999999999.25, "999999999999999.2");
        write(999999999999999.75, "999999999999999.8");
    }

    /** "the decimal of n digits nearest to v". */
    private static void roundedIsNearest() {
        double third = 1.0 / 3;
        double twoThirds = 2.0 / 3;
        for (int n = 1; n <= 17; n++) {
            digits(third, n, Oracle.digits(third, n));
            digits(twoThirds, n, Oracle.digits(twoThirds, n));
            digits(5e-324, n, Oracle.digits(5e-324, n));
            digits(Double.MAX_VALUE, n, Oracle.digits(Double.MAX_VALUE, n));
        }
        digits(twoThirds, 1, "0.7");
        digits(twoThirds, 16, "0.6666666666666666");
        digits(twoThirds, 17, "0.66666666666666663");
        // just above and just below half-way
        digits(Math.nextUp(2.5), 1, "3");
        digits(Math.nextDown(2.5), 1, "2");
        digits(Math.nextUp(3.5), 1, "4");
        digits(Math.nextDown(3.5), 1, "3");
        // one digit behind tells that it is more than half-way
        for (int n = 0; n < 10; n++) {
            String zeros = "0".repeat(n);
            digits(Double.parseDouble("25" + zeros + "1"), 1, "300" + zeros);
            digits(Double.parseDouble("12345" + zeros + "1"), 4, "123500" + zeros);
        }
        digits(0.15, 1, "0.1");
        digits(0.35, 1, "0.3");
        digits(0.25, 1, "0.2");
    }

    /** "of two as near the one whose last digit is even". */
    private static void roundedOfTwoIsEven() {
        for (int d = 1; d < 9; d++) {
            int even = d + d % 2;
            digits(d + 0.5, 1, "" + even);
            digits(10 * d + 5, 1, even + "0");
            digits(100 + d + 0.5, 3, "" + (100 + even));
        }
        digits(1000000000000000.5, 16, "1000000000000000");
        digits(1000000000000001.5, 16, "1000000000000002");
        digits(1000000000000000.25, 17, "1000000000000000.2");
        digits(1000000000000000.75, 17, "1000000000000000.8");
        digits(Math.scalb(1.0, -3), 2, "0.12");
        digits(Math.scalb(3.0, -3), 2, "0.38");
    }

    /** "A DECIMAL of n digits": zeros behind count, too. */
    private static void roundedHasAllDigits() {
        for (int n = 1; n <= 17; n++) {
            String zeros = "0".repeat(n - 1);
            digits(1, n, n == 1 ? "1" : "1." + zeros);
            digits(0.5, n, "0.5" + zeros);
            digits(1e20, n, n == 1 ? "1e20" : "1." + zeros + "e20");
            digits(Math.scalb(1.0, -1), n, "0.5" + zeros);
        }
    }

    /** All digits are 9: the nearest one has the next P. */
    private static void roundedGoesToNextPoint() {
        for (int n = 1; n <= 15; n++) {
            double nines = Double.parseDouble("9".repeat(n) + ".7");
            String zeros = "0".repeat(n);
            digits(nines, n, "1" + zeros);
            digits(Double.parseDouble("0." + "9".repeat(n) + "7"), n,
                    n == 1 ? "1" : "1." + zeros.substring(1));
            digits(Double.parseDouble("9".repeat(n) + "7e100"), n,
                    (n == 1 ? "1" : "1." + zeros.substring(1)) + "e" + (n + 101));
        }
        digits(99.5, 2, "100");
        digits(999.5, 3, "1000");
        digits(9.5, 1, "10");
        digits(9.4, 1, "9");
    }

    /** "A decimal is written PLAIN, if P is from -3 to 16 .. Otherwise it is .. SCIENTIFIC". */
    private static void plainFromMinus3To16() {
        write(0.0001, "0.0001");
        write(0.0009999, "0.0009999");
        write(0.00099, "0.00099");
        write(0.000099, "9.9e-5");
        write(0.00001, "1e-5");
        write(1000000000000000.0, "1000000000000000");
        write(9999999999999998.0, "9999999999999998");
        write(10000000000000000.0, "1e16");
        write(10000000000000002.0, "1.0000000000000002e16");
        write(Math.nextDown(0.0001), "9.999999999999999e-5");
        write(Math.nextUp(0.0001), "0.00010000000000000002");
    }

    /** The three ways of PLAIN: P from -3 to 0, P from n on, and between. */
    private static void plainByPoint() {
        String[] one = {"0.0001", "0.001", "0.01", "0.1", "1", "10", "100", "1000", "10000"};
        String[] two = {"0.00012", "0.0012", "0.012", "0.12", "1.2", "12", "120", "1200", "12000"};
        String[] four = {"0.0001234", "0.001234", "0.01234", "0.1234", "1.234", "12.34", "123.4",
            "1234", "12340"};
        String[] fourFor = {"0.0001200", "0.001200", "0.01200", "0.1200", "1.200", "12.00", "120.0",
            "1200", "12000"};
        for (int i = 0; i < one.length; i++) {
            write(Double.parseDouble(one[i]), one[i]);
            write(Double.parseDouble(two[i]), two[i]);
            write(Double.parseDouble(four[i]), four[i]);
            digits(Double.parseDouble(two[i]), 2, two[i]);
            digits(Double.parseDouble(two[i]), 4, fourFor[i]);
            digits(Double.parseDouble(two[i]), 1, one[i]);
        }
        for (int p = 1; p <= 16; p++) {
            double ten = Double.parseDouble("1e" + (p - 1));
            write(ten, "1" + "0".repeat(p - 1));
            digits(ten, 1, "1" + "0".repeat(p - 1));
            digits(ten, p, "1" + "0".repeat(p - 1));
            digits(ten, p + 1, "1" + "0".repeat(p - 1) + ".0");
        }
    }

    private static void plainOrNotIsAskedOfTheRounded() {
        digits(0.00009999, 3, "0.000100");
        digits(0.00009999, 4, "9.999e-5");
        digits(0.0000995, 1, "0.0001");
        digits(0.0000994, 2, "9.9e-5");
        digits(0.0000996, 2, "0.00010");
        digits(9999999999999998.0, 15, "1.00000000000000e16");
        digits(9999999999999998.0, 16, "9999999999999998");
        digits(9999999999999998.0, 17, "9999999999999998.0");
        digits(9499999999999998.0, 1, "9000000000000000");
        digits(9600000000000000.0, 1, "1e16");
        digits(10000000000000000.0, 17, "1.0000000000000000e16");
    }

    /** "d1, if n is above 1 '.' and the other digits". */
    private static void scientificPoint() {
        write(1e16, "1e16");
        write(1.2e17, "1.2e17");
        write(1.23456e-7, "1.23456e-7");
        digits(1e16, 1, "1e16");
        digits(1e16, 2, "1.0e16");
        digits(1e16, 3, "1.00e16");
        digits(1.25e-5, 1, "1e-5");
        digits(1.76e-5, 2, "1.8e-5");
    }

    /** "'e', P - 1 (with '-', if it is below 0)": of one, two and three digits. */
    private static void scientificExponent() {
        for (int e = -323; e <= 308; e++) {
            if (e < -4 || e > 15) {
                write(Double.parseDouble("1e" + e), "1e" + e);
                digits(Double.parseDouble("1e" + e), 1, "1e" + e);
            }
        }
        write(4e-5, "4e-5");
        write(4e-9, "4e-9");
        write(4e-10, "4e-10");
        write(4e-99, "4e-99");
        write(4e-100, "4e-100");
        write(4e99, "4e99");
        write(4e100, "4e100");
        digits(Double.MAX_VALUE, 1, "2e308");
        digits(1e-323, 1, "1e-323");
    }
}
