public final class Promise09PlacesTest {
    private static final Check CHECK = new Check();

    public static void main(String[] args) {
        roundsToPlaces();
        roundsHalvesToEven();
        roundsToZero();
        writesWithoutDigits();
        refusesWrongPlaces();
        CHECK.end();
    }

    private static void due(double number, int p, String text) {
        CHECK.due("places(" + number + ", " + p + ")",
                Use.written(x -> x.places(Use.bits(number), p)), text);
    }

    private static void roundsToPlaces() {
        due(1.0, 0, "1");
        due(1.0, 2, "1.00");
        due(-3.14159, 3, "-3.142");
        due(0.1, 40, "0.1000000000000000055511151231257827021182");
        due(123.456, 1, "123.5");
        due(0.999, 2, "1.00");
        due(99.999, 1, "100.0");
        due(999.9, 0, "1000");
        due(0.05, 3, "0.050");
        due(1e22, 1, "10000000000000000000000.0");
        due(1e23, 0, "99999999999999991611392");
        due(-1e16, 0, "-10000000000000000");
        CHECK.due("places(most, 40)",
                Use.written(x -> x.places(Use.bits(Double.MAX_VALUE), 40)).length(), 350);
    }

    private static void roundsHalvesToEven() {
        due(0.5, 0, "0");
        due(1.5, 0, "2");
        due(2.5, 0, "2");
        due(3.5, 0, "4");
        due(9.5, 0, "10");
        due(-2.5, 0, "-2");
        due(0.125, 2, "0.12");
        due(0.375, 2, "0.38");
        due(0.0625, 3, "0.062");
        due(Math.nextUp(0.5), 0, "1");
        due(Math.nextDown(0.5), 0, "0");
        due(Math.nextUp(2.5), 0, "3");
        due(1.005, 2, "1.00");
    }

    private static void roundsToZero() {
        due(0.4, 0, "0");
        due(-0.3, 0, "-0");
        due(0.001, 2, "0.00");
        due(-0.004, 2, "-0.00");
        due(0.006, 2, "0.01");
        due(0.09, 0, "0");
        due(5e-324, 40, "0." + "0".repeat(40));
        due(-1e-41, 40, "-0." + "0".repeat(40));
        due(9e-41, 40, "0." + "0".repeat(39) + "1");
    }

    private static void writesWithoutDigits() {
        due(0.0, 0, "0");
        due(-0.0, 0, "-0");
        due(0.0, 3, "0.000");
        due(-0.0, 1, "-0.0");
        due(Double.POSITIVE_INFINITY, 3, "inf");
        due(Double.NEGATIVE_INFINITY, 0, "-inf");
        due(Double.NaN, 3, "nan");
        CHECK.due("nan with a sign", Use.written(x -> x.places(-1L, 3)), "nan");
    }

    private static void refusesWrongPlaces() {
        NumberText x = Use.typed("12");
        for (int p : new int[] {-1, 41, Integer.MIN_VALUE, Integer.MAX_VALUE}) {
            CHECK.dueThrow("places(1, " + p + ")", IllegalArgumentException.class,
                    () -> x.places(Use.bits(1), p));
            CHECK.dueThrow("places(nan, " + p + ")", IllegalArgumentException.class,
                    () -> x.places(-1L, p));
        }
        CHECK.due("the text stays", Use.text(x), "12");
        CHECK.due("places(7, 2)", x.places(Use.bits(7), 2), 4);
        CHECK.due("the text is replaced", Use.text(x), "7.00");
        CHECK.due("places(7, 0)", x.places(Use.bits(7), 0), 1);
        CHECK.due("text", Use.text(x), "7");
        CHECK.due("places(7, 40)", x.places(Use.bits(7), 40), 42);
        CHECK.due("text", Use.text(x), "7." + "0".repeat(40));
        CHECK.due("places(-most, 40)", x.places(0xffefffffffffffffL, 40), 351);
    }
}
