import java.math.BigDecimal;
import java.util.Random;

/** Many numbers, texts and tables, always the same ones, against the Java library. */
public final class OracleTest {
    private static final Random SAME_NUMBERS = new Random(20261115);
    private static final Check CHECK = new Check();

    public static void main(String[] args) {
        for (int i = 0; i < 6000; i++) {
            writes(number(i));
        }
        for (int i = 0; i < 3000; i++) {
            readsBack(number(i));
            readsDigits();
            readsNearHalf(number(i));
        }
        for (int i = 0; i < 20000; i++) {
            findsWrongPlace();
        }
        for (int i = 0; i < 1500; i++) {
            laysOut();
        }
        CHECK.end();
    }

    private static int below(int bound) {
        return SAME_NUMBERS.nextInt(bound);
    }

    /** Numbers of every kind, in turn. */
    private static double number(int turn) {
        switch (turn % 8) {
            case 0:
                return Double.longBitsToDouble(SAME_NUMBERS.nextLong());
            case 1:
                return Double.longBitsToDouble(SAME_NUMBERS.nextLong() >>> 12 + below(52));
            case 2:
                return Math.scalb(1.0, below(2098) - 1074);
            case 3:
                return -Math.nextAfter(Math.scalb(1.0, below(2098) - 1074), below(2) * 1000);
            case 4:
                return Double.parseDouble((below(999) + 1) + "e" + (below(640) - 330));
            case 5:
                return (below(2000001) - 1000000) / 8.0;
            case 6:
                return below(100000) / Math.pow(10, below(9));
            default:
                return (SAME_NUMBERS.nextLong() >> below(60)) / (double) (1L << below(30));
        }
    }

    private static void writes(double number) {
        long bits = Use.bits(number);
        String name = Long.toHexString(bits);
        int n = 1 + below(17);
        int p = below(41);
        String shortText = Use.written(x -> x.write(bits));
        CHECK.due("write " + name, shortText, Oracle.write(number));
        if (!Double.isNaN(number)) {
            CHECK.dueBits("read back " + name, Use.read(shortText), bits);
        }
        CHECK.due("digits " + name + " " + n, Use.written(x -> x.digits(bits, n)),
                Oracle.digits(number, n));
        CHECK.due("places " + name + " " + p, Use.written(x -> x.places(bits, p)),
                Oracle.places(number, p));
        CHECK.due("full " + name, Use.written(x -> x.full(bits)), Oracle.full(number));
    }

    private static void reads(String text) {
        CHECK.dueBits("read " + text, Use.read(text), Oracle.read(text));
    }

    private static void readsBack(double number) {
        reads(Oracle.full(number));
        reads(Oracle.digits(number, 17));
    }

    private static void readsDigits() {
        StringBuilder text = new StringBuilder(below(2) == 0 ? "-" : "");
        int length = 1 + below(below(20) == 0 ? 1100 : 40);
        int point = below(2 * length);
        for (int i = 0; i < length; i++) {
            if (i == point) {
                text.append('.');
            }
            text.append((char) ('0' + below(10) * below(2)));
        }
        if (below(3) > 0) {
            text.append("e").append(below(700) - 350 - (below(2) * length));
        }
        reads(text.toString());
    }

    /** Half-way to the number above, and by one far place more or less. */
    private static void readsNearHalf(double number) {
        double v = Math.abs(number);
        if (Double.isNaN(v) || v >= Double.MAX_VALUE) {
            return;
        }
        BigDecimal half = new BigDecimal(v).add(new BigDecimal(Math.nextUp(v)))
                .divide(BigDecimal.valueOf(2));
        BigDecimal little = BigDecimal.ONE.movePointLeft(half.scale() + 1 + below(40));
        reads(half.toPlainString());
        reads(half.add(little).toPlainString());
        reads(half.subtract(little).toPlainString());
        reads(half.unscaledValue() + "e" + -half.scale());
    }

    private static void findsWrongPlace() {
        String characters = "00123..eE+-infa x";
        StringBuilder random = new StringBuilder();
        int length = below(9);
        for (int i = 0; i < length; i++) {
            random.append(characters.charAt(below(characters.length())));
        }
        String text = random.toString();
        int place = Oracle.wrongPlace(text);
        NumberText x = Use.typed(text);
        if (place == NumberText.NONE) {
            CHECK.dueBits("read " + text, x.read(), Oracle.read(text));
        } else {
            CHECK.dueThrow("read " + text, IllegalArgumentException.class, x::read);
            CHECK.due("text after " + text, Use.text(x), text);
        }
        CHECK.due("place of " + text, x.place(), place);
    }

    private static double tableNumber(int kind) {
        switch (below(8)) {
            case 0:
                return below(2) == 0 ? 0.0 : -0.0;
            case 1:
                return below(3) == 0 ? Double.NaN : 1 / (below(2) - 0.5) * Double.POSITIVE_INFINITY;
            default:
                return kind == 0 ? number(below(8)) : kind == 1 ? number(5 + below(2))
                        : (below(2) - 0.5) * Math.pow(10, below(21) - 4);
        }
    }

    private static void laysOut() {
        int rows = 1 + below(8);
        int columns = 1 + below(8);
        int n = 1 + below(17);
        int kind = below(3);
        double[] numbers = new double[rows * columns];
        for (int i = 0; i < numbers.length; i++) {
            numbers[i] = tableNumber(kind);
        }
        String[] lines = Use.lines(() -> Use.table(columns, numbers), rows, n);
        CHECK.due("layout(" + n + ")", String.join("\n", lines),
                String.join("\n", Oracle.lines(columns, n, numbers)));
    }
}
