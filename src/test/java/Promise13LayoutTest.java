public final class Promise13LayoutTest {
    private static final double INF = Double.POSITIVE_INFINITY;
    private static final double NAN = Double.NaN;
    private static final Check CHECK = new Check();

    public static void main(String[] args) {
        writesToCommonPlaces();
        writesNumbersThemselves();
        writesScientific();
        choosesByRounded();
        writesWithoutDigits();
        looksAtEachColumn();
        laysOutWidest();
        refusesWrongCounts();
        leavesTheText();
        CHECK.end();
    }

    /** One column. */
    private static void due(int n, String lines, double... numbers) {
        CHECK.due("layout(" + n + ")",
                String.join("|", Use.lines(() -> Use.table(1, numbers), numbers.length, n)), lines);
    }

    private static void writesToCommonPlaces() {
        due(4, "  1.0|  0.1|-30.2", 1, 0.1, -30.2);
        due(3, "100|  5", 100, 5);
        due(17, "1|2|3", 1, 2, 3);
        due(17, "0.10000000000000001|2.00000000000000000", 0.1, 2);
        due(5, "1.25|2.50", 1.25, 2.5);
        due(2, "0.0001|1.0000", 0.0001, 1);
    }

    private static void writesNumbersThemselves() {
        due(1, "123|  5", 123, 5);
        due(1, "123.5|  0.5", 123.456, 0.5);
        due(2, "1234.6|   0.5", 1234.56, 0.5);
        due(1, "123457", 123456.7);
        due(3, "100", 99.99);
        due(3, "99.99| 0.25", 99.99, 0.25);
        due(1, "2.5|0.1", 2.5, 0.1);
        due(1, "2", 2.5);
        due(1, "9999", 9999);
    }

    private static void writesScientific() {
        due(1, "   1e0|5e-324", 1, 5e-324);
        due(3, "   1.00e0|   5.00e0|-1.23e-20", 1, 5, -1.234e-20);
        due(2, "1.0e16|     0|    -0", 1e16, 0.0, -0.0);
        due(17, "-4.9406564584124654e-324", -5e-324);
        due(2, "1.0e-5| 2.5e1", 0.00001, 25);
    }

    private static void choosesByRounded() {
        due(1, "0.0001", 0.00009999);
        due(4, "9.999e-5", 0.00009999);
        due(1, "1e16", 9999999999999998.0);
        due(16, "9999999999999998", 9999999999999998.0);
        due(17, "9999999999999998", 9999999999999998.0);
        due(2, "9.9e-5", 0.000099);
        due(1, "1e-4|1e16", 0.000099, 1e16);
    }

    private static void writesWithoutDigits() {
        due(3, " nan| inf|-inf|   0|  -0", NAN, INF, -INF, 0.0, -0.0);
        due(3, " nan|0.25|-inf|0.00", NAN, 0.25, -INF, 0.0);
        due(2, "-0.0|-0.5", -0.0, -0.5);
        due(3, "    nan|   -inf|      0|     -0|1.00e20", NAN, -INF, 0.0, -0.0, 1e20);
        due(1, "nan|inf", NAN, INF);
        NumberText x = new NumberText();
        x.set(0, 0, -1L);
        CHECK.due("layout(1) of nan with a sign", x.layout(1), 3);
        CHECK.due("line 0", Use.line(x, 0), "nan");
    }

    private static void looksAtEachColumn() {
        NumberText x = Use.table(3, 1.5, 1e20, 7, -10, 1, NAN);
        CHECK.due("layout(2)", x.layout(2), 5 + 2 + 6 + 2 + 3);
        CHECK.due("line 0", Use.line(x, 0), "  1.5  1.0e20    7");
        CHECK.due("line 1", Use.line(x, 1), "-10.0   1.0e0  nan");
        CHECK.due("layout(1)", x.layout(1), 3 + 2 + 4 + 2 + 3);
        CHECK.due("line 0", Use.line(x, 0), "  2  1e20    7");
        CHECK.due("line 1", Use.line(x, 1), "-10   1e0  nan");
    }

    private static void laysOutWidest() {
        double small = -0.00012345678901234567;
        double big = -9876543210987654.0;
        double[] numbers = new double[64];
        for (int i = 0; i < 64; i++) {
            numbers[i] = i % 2 == i / 8 % 2 ? small : big;
        }
        String[] lines = Use.lines(() -> Use.table(8, numbers), 8, 17);
        CHECK.due("the widest", String.join("\n", lines),
                String.join("\n", Oracle.lines(8, 17, numbers)));
        CHECK.due("its width", lines[7].length(), 8 * 38 + 14);
    }

    private static void refusesWrongCounts() {
        NumberText x = Use.table(1, 1, 2);
        x.layout(3);
        x.set(1, 0, Use.bits(5));
        for (int n : new int[] {0, -1, 18, Integer.MIN_VALUE, Integer.MAX_VALUE}) {
            CHECK.dueThrow("layout(" + n + ")", IllegalArgumentException.class, () -> x.layout(n));
        }
        CHECK.due("the lines stay", Use.line(x, 0) + "|" + Use.line(x, 1), "1|2");
        x.set(0, 0, Use.bits(1.0 / 3));
        CHECK.due("layout(1)", x.layout(1), 3);
        CHECK.due("lines", Use.line(x, 0) + "|" + Use.line(x, 1), "0.3|5.0");
        CHECK.due("layout(17)", x.layout(17), 19);
        CHECK.due("lines", Use.line(x, 0) + "|" + Use.line(x, 1),
                "0.33333333333333331|5.00000000000000000");
    }

    private static void leavesTheText() {
        NumberText x = Use.typed("12");
        x.set(0, 0, Use.bits(1.5));
        x.layout(2);
        CHECK.due("text", Use.text(x), "12");
        x.write(Use.bits(0.125));
        CHECK.due("line 0", Use.line(x, 0), "1.5");
    }
}
