public final class Promise08DigitsTest {
    private static final Check CHECK = new Check();

    public static void main(String[] args) {
        rounds();
        roundsHalvesToEven();
        writesPlainOrScientific();
        writesWithoutDigits();
        refusesWrongCounts();
        CHECK.end();
    }

    private static void due(double number, int n, String text) {
        CHECK.due("digits(" + number + ", " + n + ")",
                Use.written(x -> x.digits(Use.bits(number), n)), text);
    }

    private static void rounds() {
        due(1.0, 1, "1");
        due(1.0, 3, "1.00");
        due(1.0, 17, "1.0000000000000000");
        due(0.1, 17, "0.10000000000000001");
        due(-123.456, 4, "-123.5");
        due(123456, 2, "120000");
        due(123456, 6, "123456");
        due(123456, 7, "123456.0");
        due(0.99, 1, "1");
        due(0.999, 2, "1.0");
        due(99.99, 3, "100");
        due(Math.PI, 17, "3.1415926535897931");
        due(5e-324, 1, "5e-324");
        due(5e-324, 17, "4.9406564584124654e-324");
        due(Double.MAX_VALUE, 17, "1.7976931348623157e308");
        due(Double.MAX_VALUE, 1, "2e308");
    }

    private static void roundsHalvesToEven() {
        due(2.5, 1, "2");
        due(3.5, 1, "4");
        due(-2.5, 1, "-2");
        due(0.125, 2, "0.12");
        due(0.375, 2, "0.38");
        due(1.25, 2, "1.2");
        due(2.675, 3, "2.67");
        due(1.5, 1, "2");
        due(99.5, 2, "100");
        due(9.75, 2, "9.8");
        due(0.5 + Math.scalb(1.0, -53), 15, "0.500000000000000");
        // neither 9 nor 1 is even: up, as with more digits
        due(9.5, 1, "10");
        due(95, 1, "100");
    }

    private static void writesPlainOrScientific() {
        due(0.0001, 1, "0.0001");
        due(0.0001, 3, "0.000100");
        due(0.00009999, 2, "0.00010");
        due(0.00009999, 4, "9.999e-5");
        due(0.00005, 2, "5.0e-5");
        due(9999999999999998.0, 16, "9999999999999998");
        due(9999999999999998.0, 17, "9999999999999998.0");
        due(9999999999999998.0, 15, "1.00000000000000e16");
        due(9999999999999998.0, 1, "1e16");
        due(1e15, 3, "1000000000000000");
        due(1e16, 3, "1.00e16");
        due(-1e-100, 2, "-1.0e-100");
    }

    private static void writesWithoutDigits() {
        due(0.0, 5, "0");
        due(-0.0, 5, "-0");
        due(Double.POSITIVE_INFINITY, 1, "inf");
        due(Double.NEGATIVE_INFINITY, 17, "-inf");
        due(Double.NaN, 3, "nan");
        CHECK.due("nan with a sign", Use.written(x -> x.digits(-1L, 3)), "nan");
    }

    private static void refusesWrongCounts() {
        NumberText x = Use.typed("12");
        for (int n : new int[] {0, -1, 18, Integer.MIN_VALUE, Integer.MAX_VALUE}) {
            CHECK.dueThrow("digits(1, " + n + ")", IllegalArgumentException.class,
                    () -> x.digits(Use.bits(1), n));
            CHECK.dueThrow("digits(nan, " + n + ")", IllegalArgumentException.class,
                    () -> x.digits(-1L, n));
        }
        CHECK.due("the text stays", Use.text(x), "12");
        CHECK.due("digits(7, 2)", x.digits(Use.bits(7), 2), 3);
        CHECK.due("the text is replaced", Use.text(x), "7.0");
        CHECK.due("digits(7, 1)", x.digits(Use.bits(7), 1), 1);
        CHECK.due("text", Use.text(x), "7");
        CHECK.due("digits(7, 17)", x.digits(Use.bits(7), 17), 18);
        CHECK.due("text", Use.text(x), "7.0000000000000000");
        x.wipe();
        Use.type(x, "7".repeat(1200));
        CHECK.due("digits(-5e-324, 17)", x.digits(0x8000000000000001L, 17), 24);
        CHECK.due("text", Use.text(x), "-4.9406564584124654e-324");
    }
}
