import java.math.BigDecimal;
import java.math.MathContext;
import java.math.RoundingMode;
import java.util.regex.Matcher;
import java.util.regex.Pattern;

/** The document's terms, told a second time by the Java library. */
final class Oracle {
    private static final Pattern NUMERAL = Pattern.compile(
            "[+-]?(([0-9]+([.][0-9]*)?|[.][0-9]+)([eE][+-]?[0-9]+)?|inf)|nan");

    private Oracle() {
    }

    /** Where a text is wrong; NONE if it is a numeral. */
    static int wrongPlace(String text) {
        for (int end = 1; end <= text.length(); end++) {
            Matcher matcher = NUMERAL.matcher(text.substring(0, end));
            if (!matcher.matches() && !matcher.hitEnd()) {
                return end - 1;
            }
        }
        return NUMERAL.matcher(text).matches() ? NumberText.NONE : text.length();
    }

    static long read(String numeral) {
        if (numeral.endsWith("inf")) {
            return Use.bits(numeral.startsWith("-") ? Double.NEGATIVE_INFINITY
                    : Double.POSITIVE_INFINITY);
        }
        return numeral.equals("nan") ? 0x7ff8000000000000L : Use.bits(Double.parseDouble(numeral));
    }

    private static String sign(double number) {
        return Use.bits(number) < 0 ? "-" : "";
    }

    /** What a number without digits is; null if it has digits. */
    private static String word(double number) {
        if (Double.isNaN(number)) {
            return "nan";
        }
        return Double.isInfinite(number) ? sign(number) + "inf" : null;
    }

    private static BigDecimal exact(double number) {
        return new BigDecimal(Math.abs(number));
    }

    static BigDecimal shortest(double number) {
        double v = Math.abs(number);
        for (int n = 1; ; n++) {
            BigDecimal down = exact(v).round(new MathContext(n, RoundingMode.DOWN));
            BigDecimal up = exact(v).round(new MathContext(n, RoundingMode.UP));
            boolean downFits = parsed(down) == v;
            boolean upFits = parsed(up) == v;
            if (downFits && upFits) {
                int nearer = exact(v).subtract(down).compareTo(up.subtract(exact(v)));
                boolean downIsEven = !down.unscaledValue().testBit(0);
                return nearer < 0 || nearer == 0 && downIsEven ? down : up;
            }
            if (downFits || upFits) {
                return downFits ? down : up;
            }
        }
    }

    private static double parsed(BigDecimal decimal) {
        return Double.parseDouble(decimal.toString());
    }

    private static BigDecimal rounded(double number, int n) {
        return exact(number).round(new MathContext(n, RoundingMode.HALF_EVEN));
    }

    /** P of the document. */
    private static int point(BigDecimal decimal) {
        return decimal.precision() - decimal.scale();
    }

    private static boolean isPlain(BigDecimal decimal) {
        return point(decimal) >= -3 && point(decimal) <= 16;
    }

    /** The first n digits, with zeros behind if there are fewer. */
    private static String digits(BigDecimal decimal, int n) {
        String all = decimal.unscaledValue().toString() + "0".repeat(n);
        return all.substring(0, n);
    }

    private static String scientific(BigDecimal decimal, int n) {
        String all = digits(decimal, n);
        return all.charAt(0) + (n > 1 ? "." + all.substring(1) : "") + "e" + (point(decimal) - 1);
    }

    private static String written(BigDecimal decimal, int n) {
        if (!isPlain(decimal)) {
            return scientific(decimal, n);
        }
        int point = point(decimal);
        String all = digits(decimal, n);
        if (point <= 0) {
            return "0." + "0".repeat(-point) + all;
        }
        return point >= n ? all + "0".repeat(point - n)
                : all.substring(0, point) + "." + all.substring(point);
    }

    static String write(double number) {
        if (word(number) != null) {
            return word(number);
        }
        if (number == 0) {
            return sign(number) + "0";
        }
        BigDecimal decimal = shortest(number).stripTrailingZeros();
        return sign(number) + written(decimal, decimal.precision());
    }

    static String digits(double number, int n) {
        if (word(number) != null) {
            return word(number);
        }
        return sign(number) + (number == 0 ? "0" : written(rounded(number, n), n));
    }

    static String places(double number, int p) {
        if (word(number) != null) {
            return word(number);
        }
        return sign(number) + exact(number).setScale(p, RoundingMode.HALF_EVEN).toPlainString();
    }

    static String full(double number) {
        if (word(number) != null) {
            return word(number);
        }
        BigDecimal all = number == 0 ? BigDecimal.ZERO : exact(number).stripTrailingZeros();
        return sign(number) + all.toPlainString();
    }

    private static String[] column(double[] numbers, int n) {
        boolean plain = true;
        int p = 0;
        for (double number : numbers) {
            if (word(number) == null && number != 0) {
                BigDecimal decimal = rounded(number, n);
                plain &= isPlain(decimal);
                p = Math.max(p, decimal.stripTrailingZeros().scale());
            }
        }
        String[] texts = new String[numbers.length];
        int width = 0;
        for (int i = 0; i < numbers.length; i++) {
            texts[i] = cell(numbers[i], n, plain, p);
            width = Math.max(width, texts[i].length());
        }
        for (int i = 0; i < numbers.length; i++) {
            texts[i] = " ".repeat(width - texts[i].length()) + texts[i];
        }
        return texts;
    }

    private static String cell(double number, int n, boolean plain, int p) {
        if (word(number) != null) {
            return word(number);
        }
        if (plain) {
            return places(number, p);
        }
        return sign(number) + (number == 0 ? "0" : scientific(rounded(number, n), n));
    }

    /** The lines of a table of so many columns, its numbers row by row. */
    static String[] lines(int columns, int n, double... numbers) {
        String[] lines = new String[numbers.length / columns];
        for (int column = 0; column < columns; column++) {
            double[] inColumn = new double[lines.length];
            for (int row = 0; row < lines.length; row++) {
                inColumn[row] = numbers[row * columns + column];
            }
            String[] texts = column(inColumn, n);
            for (int row = 0; row < lines.length; row++) {
                lines[row] = column == 0 ? texts[row] : lines[row] + "  " + texts[row];
            }
        }
        return lines;
    }
}
