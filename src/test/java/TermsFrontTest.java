import java.util.function.ToIntFunction;

/** What stands in front of all, and what is written without digits, in each of the forms. */
public final class TermsFrontTest {
    private static final Check CHECK = new Check();
    private static final long SIGN = 1L << 63;

    public static void main(String[] args) {
        minusIfSignIs1();
        zeroIsZero();
        zeroToPlaces();
        infinite();
        noNumberWithoutSign();
        CHECK.end();
    }

    private static void due(String call, ToIntFunction<NumberText> made, String text) {
        CHECK.due(call, Use.written(made), text);
    }

    private static String line(long bits, int n) {
        NumberText x = new NumberText();
        x.set(0, 0, bits);
        int length = x.layout(n);
        String line = Use.line(x, 0);
        CHECK.due("layout(" + n + ")", length, line.length());
        return line;
    }

    /** "In front of all stands '-', if SIGN is 1." */
    private static void minusIfSignIs1() {
        for (double number : new double[] {1, 0.5, 0.001, 1e-5, 1e16, 1e300, 5e-324, 2.5}) {
            long bits = Use.bits(number);
            long below = bits | SIGN;
            due("write", x -> x.write(below), "-" + Use.written(x -> x.write(bits)));
            due("full", x -> x.full(below), "-" + Use.written(x -> x.full(bits)));
            for (int n = 1; n <= 17; n += 4) {
                int count = n;
                due("digits", x -> x.digits(below, count),
                        "-" + Use.written(x -> x.digits(bits, count)));
                due("places", x -> x.places(below, count),
                        "-" + Use.written(x -> x.places(bits, count)));
                CHECK.due("line", line(below, n), "-" + line(bits, n));
            }
        }
        // also where nothing but zeros is left
        due("places(-0.25, 0)", x -> x.places(Use.bits(-0.25), 0), "-0");
        due("places(-0.001, 2)", x -> x.places(Use.bits(-0.001), 2), "-0.00");
        due("places(-5e-324, 40)", x -> x.places(SIGN | 1, 40), "-0." + "0".repeat(40));
    }

    /** "0 is written as '0'". */
    private static void zeroIsZero() {
        due("write(0)", x -> x.write(0), "0");
        due("write(-0)", x -> x.write(SIGN), "-0");
        due("full(0)", x -> x.full(0), "0");
        due("full(-0)", x -> x.full(SIGN), "-0");
        for (int n = 1; n <= 17; n++) {
            int count = n;
            due("digits(0, " + n + ")", x -> x.digits(0, count), "0");
            due("digits(-0, " + n + ")", x -> x.digits(SIGN, count), "-0");
            CHECK.due("layout(" + n + ") of 0", line(0, n), "0");
            CHECK.due("layout(" + n + ") of -0", line(SIGN, n), "-0");
        }
    }

    /** "(but to p places, with these)". */
    private static void zeroToPlaces() {
        due("places(0, 0)", x -> x.places(0, 0), "0");
        due("places(-0, 0)", x -> x.places(SIGN, 0), "-0");
        due("places(0, 1)", x -> x.places(0, 1), "0.0");
        due("places(-0, 1)", x -> x.places(SIGN, 1), "-0.0");
        due("places(0, 40)", x -> x.places(0, 40), "0." + "0".repeat(40));
        due("places(-0, 40)", x -> x.places(SIGN, 40), "-0." + "0".repeat(40));
    }

    /** "INFINITE is 'inf'". */
    private static void infinite() {
        long infinite = 0x7ff0000000000000L;
        word(infinite, "inf");
        word(infinite | SIGN, "-inf");
    }

    /** "no number 'nan' (without a sign)". */
    private static void noNumberWithoutSign() {
        for (long bits : new long[] {0x7ff0000000000001L, 0x7ff8000000000000L, Long.MAX_VALUE}) {
            word(bits, "nan");
            word(bits | SIGN, "nan");
        }
    }

    private static void word(long bits, String word) {
        due("write", x -> x.write(bits), word);
        due("full", x -> x.full(bits), word);
        for (int n = 1; n <= 17; n++) {
            int count = n;
            due("digits " + n, x -> x.digits(bits, count), word);
            CHECK.due("layout(" + n + ")", line(bits, n), word);
        }
        for (int p = 0; p <= 40; p++) {
            int count = p;
            due("places " + p, x -> x.places(bits, count), word);
        }
    }
}
