import java.math.BigDecimal;
import java.math.BigInteger;

/** BITS, by the document's formula alone: no double of the Java machine is asked. */
public final class TermsBitsTest {
    private static final Check CHECK = new Check();
    private static final long SIGN = 1L << 63;
    private static final long MOST_F = (1L << 52) - 1;
    private static final long[] SOME_F = {0, 1, 2, 1L << 51, MOST_F - 1, MOST_F};

    public static void main(String[] args) {
        eFrom1To2046();
        eOf0();
        eOf2047();
        signOf1();
        neighboursMeet();
        CHECK.end();
    }

    private static long bits(int e, long f) {
        return (long) e << 52 | f;
    }

    /** m * 2^power. */
    private static String full(BigInteger m, int power) {
        if (power >= 0) {
            return m.shiftLeft(power).toString();
        }
        BigInteger scaled = m.multiply(BigInteger.valueOf(5).pow(-power));
        return new BigDecimal(scaled, -power).stripTrailingZeros().toPlainString();
    }

    private static void due(long bits, String full) {
        String name = Long.toHexString(bits);
        CHECK.due("full(" + name + ")", Use.written(x -> x.full(bits)), full);
        CHECK.dueBits("read() of all of " + name, Use.read(full), bits);
        String shortText = Use.written(x -> x.write(bits));
        CHECK.dueBits("read() of what write(" + name + ") wrote", Use.read(shortText), bits);
    }

    /** "With E from 1 to 2046 it is (2^52 + F) * 2^(E - 1075)". */
    private static void eFrom1To2046() {
        for (int e : new int[] {1, 2, 3, 1022, 1023, 1024, 1074, 1075, 1076, 2044, 2045, 2046}) {
            for (long f : SOME_F) {
                due(bits(e, f), full(BigInteger.valueOf((1L << 52) + f), e - 1075));
            }
        }
    }

    /** "with E 0 it is F * 2^-1074". */
    private static void eOf0() {
        due(0, "0");
        for (long f : new long[] {1, 2, 3, 10, 1L << 51, (1L << 51) - 1, MOST_F - 1, MOST_F}) {
            due(bits(0, f), full(BigInteger.valueOf(f), -1074));
        }
    }

    /** "With E 2047 it is INFINITE, if F is 0, otherwise NO NUMBER." */
    private static void eOf2047() {
        without(bits(2047, 0), "inf");
        without(bits(2047, 0) | SIGN, "-inf");
        for (long f : new long[] {1, 2, 1L << 51, (1L << 51) - 1, MOST_F - 1, MOST_F}) {
            without(bits(2047, f), "nan");
            without(bits(2047, f) | SIGN, "nan");
        }
    }

    private static void without(long bits, String word) {
        String name = Long.toHexString(bits);
        CHECK.due("write(" + name + ")", Use.written(x -> x.write(bits)), word);
        CHECK.due("digits(" + name + ", 1)", Use.written(x -> x.digits(bits, 1)), word);
        CHECK.due("places(" + name + ", 1)", Use.written(x -> x.places(bits, 1)), word);
        CHECK.due("full(" + name + ")", Use.written(x -> x.full(bits)), word);
        NumberText x = new NumberText();
        x.set(0, 0, bits);
        CHECK.due("layout(1) of " + name, x.layout(1), word.length());
        CHECK.due("line 0 of " + name, Use.line(x, 0), word);
    }

    /** "SIGN 1 means that it is below 0 (or -0)." */
    private static void signOf1() {
        due(SIGN, "-0");
        due(SIGN | 1, "-" + full(BigInteger.ONE, -1074));
        due(SIGN | bits(1, 0), "-" + full(BigInteger.ONE, -1022));
        due(SIGN | bits(1023, 0), "-1");
        due(SIGN | bits(2046, MOST_F), "-" + full(BigInteger.valueOf((1L << 53) - 1), 971));
    }

    /** The last F of one E is followed by the first of the next one, half-way goes to it. */
    private static void neighboursMeet() {
        for (int e : new int[] {0, 1, 1022, 1075, 2045}) {
            BigInteger below = BigInteger.valueOf((e == 0 ? 0 : 1L << 52) + MOST_F);
            BigInteger half = below.shiftLeft(1).add(BigInteger.ONE);
            int power = (e == 0 ? -1074 : e - 1075) - 1;
            CHECK.dueBits("half-way above E " + e, Use.read(full(half, power)), bits(e + 1, 0));
            BigInteger less = half.shiftLeft(20).subtract(BigInteger.ONE);
            CHECK.dueBits("less than half-way above E " + e, Use.read(full(less, power - 20)),
                    bits(e, MOST_F));
        }
    }
}
