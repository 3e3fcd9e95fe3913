import java.math.BigDecimal;
import java.util.function.ToIntFunction;

/** TO p PLACES and IN FULL. */
public final class TermsPlacesFullTest {
    private static final Check CHECK = new Check();

    public static void main(String[] args) {
        nearestMultiple();
        ofTwoTheEvenMultiple();
        nothingButZeros();
        wholePart();
        placesOnlyAbove0();
        fullWithoutPlaces();
        fullToTheLastPlace();
        CHECK.end();
    }

    private static void places(double number, int p, String text) {
        CHECK.due("places(" + number + ", " + p + ")",
                Use.written(x -> x.places(Use.bits(number), p)), text);
        CHECK.due("places(" + -number + ", " + p + ")",
                Use.written(x -> x.places(Use.bits(-number), p)), "-" + text);
    }

    private static void full(double number, String text) {
        CHECK.due("full(" + number + ")", Use.written(x -> x.full(Use.bits(number))), text);
        CHECK.due("full(" + -number + ")", Use.written(x -> x.full(Use.bits(-number))), "-" + text);
    }

    /** "the multiple of 10^-p nearest to v". */
    private static void nearestMultiple() {
        for (int p = 0; p <= 40; p++) {
            for (double number : new double[] {1.0 / 3, 2.0 / 3, 99.99999999, 1e-20, 6e-41, 4e-41,
                1e300, Double.MIN_VALUE, Double.MAX_VALUE}) {
                places(number, p, Oracle.places(number, p));
            }
        }
        places(Math.nextUp(0.5), 0, "1");
        places(Math.nextDown(0.5), 0, "0");
        places(Math.nextUp(1.5), 0, "2");
        places(Math.nextDown(1.5), 0, "1");
        places(Math.nextUp(0.125), 2, "0.13");
        places(Math.nextDown(0.375), 2, "0.37");
        places(4503599627370495.5, 0, "4503599627370496");
        places(4503599627370494.5, 0, "4503599627370494");
    }

    /** "of two as near the one that is an even multiple". */
    private static void ofTwoTheEvenMultiple() {
        for (int whole = 0; whole < 30; whole++) {
            places(whole + 0.5, 0, "" + (whole + whole % 2));
            places(whole + 0.25, 1, whole + ".2");
            places(whole + 0.75, 1, whole + ".8");
            places(whole + 0.125, 2, whole + ".12");
            places(whole + 0.875, 2, whole + ".88");
        }
        // the whole part is what makes the multiple even
        places(0.5, 0, "0");
        places(9.5, 0, "10");
        places(99.5, 0, "100");
        places(98.5, 0, "98");
        // 2^-n is half-way between multiples of 10^-(n - 1)
        for (int n = 1; n <= 41; n++) {
            BigDecimal exact = new BigDecimal(Math.scalb(1.0, -n));
            String all = exact.toPlainString();
            boolean even = (all.charAt(all.length() - 2) - '0') % 2 == 0;
            CHECK.due("the last place of 2^-" + n, all.substring(all.length() - 1), "5");
            String due = n == 1 ? "0" : even ? all.substring(0, all.length() - 1)
                    : Oracle.places(Math.scalb(1.0, -n), n - 1);
            places(Math.scalb(1.0, -n), n - 1, due);
        }
        places(Math.scalb(1.0, -41), 40, "0.0000000000004547473508864641189575195312");
    }

    /** The nearest multiple is 0, or the first above it. */
    private static void nothingButZeros() {
        for (int p = 1; p <= 40; p++) {
            String zeros = "0." + "0".repeat(p);
            String one = "0." + "0".repeat(p - 1) + "1";
            places(Double.parseDouble("4e-" + (p + 1)), p, zeros);
            places(Double.parseDouble("6e-" + (p + 1)), p, one);
            places(Double.parseDouble("9e-" + (p + 2)), p, zeros);
            places(Double.parseDouble("9e-" + (p + 1)), p, one);
            places(Double.MIN_VALUE, p, zeros);
        }
        places(0.4, 0, "0");
        places(0.6, 0, "1");
        places(0.05, 0, "0");
        places(0.09, 0, "0");
        places(Double.MIN_VALUE, 0, "0");
    }

    /** "its whole part (at least one digit, without zeros in front)". */
    private static void wholePart() {
        places(0.25, 2, "0.25");
        places(0.25, 0, "0");
        places(0.999, 0, "1");
        places(0.999, 2, "1.00");
        places(9.999, 2, "10.00");
        places(1e22, 2, "10000000000000000000000.00");
        places(Double.MAX_VALUE, 0, new BigDecimal(Double.MAX_VALUE).toPlainString());
    }

    /** "if p is above 0, '.' and p digits". */
    private static void placesOnlyAbove0() {
        places(7, 0, "7");
        places(1e16, 0, "10000000000000000");
        for (int p = 1; p <= 40; p++) {
            places(7, p, "7." + "0".repeat(p));
            places(0.5, p, "0.5" + "0".repeat(p - 1));
            places(1e16, p, "10000000000000000." + "0".repeat(p));
            CHECK.due("places(0, " + p + ")", Use.written(withPlaces(0L, p)), "0." + "0".repeat(p));
            CHECK.due("places(-0, " + p + ")", Use.written(withPlaces(1L << 63, p)),
                    "-0." + "0".repeat(p));
        }
        CHECK.due("places(0, 0)", Use.written(withPlaces(0L, 0)), "0");
        CHECK.due("places(-0, 0)", Use.written(withPlaces(1L << 63, 0)), "-0");
    }

    private static ToIntFunction<NumberText> withPlaces(long bits, int p) {
        return x -> x.places(bits, p);
    }

    /** "the whole part of v, and, if it has any, '.' and its places". */
    private static void fullWithoutPlaces() {
        full(1, "1");
        full(1000, "1000");
        full(9007199254740992.0, "9007199254740992");
        full(4503599627370497.0, "4503599627370497");
        full(1e22, "10000000000000000000000");
        full(Math.scalb(1.0, 1023), new BigDecimal(Math.scalb(1.0, 1023)).toPlainString());
        full(Double.MAX_VALUE, new BigDecimal(Double.MAX_VALUE).toPlainString());
    }

    /** "up to the last one that is not 0". */
    private static void fullToTheLastPlace() {
        full(0.5, "0.5");
        full(1.5, "1.5");
        full(10.25, "10.25");
        full(4503599627370495.5, "4503599627370495.5");
        full(0.0001, "0.000100000000000000004792173602385929598312941379845142364501953125");
        for (int n = 1; n <= 1074; n += n < 70 ? 1 : 50) {
            double power = Math.scalb(1.0, -n);
            full(power, new BigDecimal(power).toPlainString());
        }
        full(Double.MIN_VALUE, new BigDecimal(Double.MIN_VALUE).toPlainString());
        NumberText x = new NumberText();
        CHECK.due("full(least)", x.full(1L), 1076);
        CHECK.due("its last place", x.character(1075), '5');
        CHECK.due("behind it", x.character(1076), NumberText.NONE);
        CHECK.due("full(-longest)", x.full(0x801fffffffffffffL), 1077);
    }
}
