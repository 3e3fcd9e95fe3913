import java.util.ArrayList;
import java.util.List;
import java.util.function.Consumer;

/** "What throws changes nothing (but read(), the place)", nor does what answers NONE. */
public final class TermsThrowsTest {
    private static final Check CHECK = new Check();

    private static final int[] FAR = {Integer.MIN_VALUE, Integer.MIN_VALUE + 1, -256, -9, -8, -1,
        0, 1, 2, 3, 8, 9, 17, 18, 40, 41, 255, 256, 65536, 0x20000000, Integer.MAX_VALUE - 1,
        Integer.MAX_VALUE};

    public static void main(String[] args) {
        readChangesThePlaceAlone();
        digitsChangesNothing();
        placesChangesNothing();
        tableChangesNothing();
        setChangesNothing();
        layoutChangesNothing();
        typeWithNoneChangesNothing();
        looksChangeNothing();
        emptyStaysEmpty();
        CHECK.end();
    }

    /** A text, a place, a table of 2 x 3 that is laid out, and numbers that are not. */
    private static NumberText used() {
        NumberText x = Use.table(3, 1, 2.5, 1e20, -4, 0.125, 6);
        x.layout(4);
        x.set(0, 0, Use.bits(77));
        x.set(1, 2, Use.bits(-0.0));
        Use.type(x, "12e");
        thrown(x::read);
        x.wipe();
        Use.type(x, "-3.5e+");
        return x;
    }

    private static String thrown(Runnable call) {
        try {
            call.run();
            return "nothing";
        } catch (RuntimeException e) {
            return e.getClass().getSimpleName();
        }
    }

    /** All that an object tells, in at most 300 calls. */
    private static List<String> told(NumberText x, boolean withPlace) {
        List<String> all = new ArrayList<>();
        all.add("text '" + Use.text(x) + "'");
        all.add("place " + (withPlace ? x.place() : 0));
        all.add("lines '" + Use.line(x, 0) + "' '" + Use.line(x, 1) + "' '" + Use.line(x, 2) + "'");
        all.add("rows: " + thrown(() -> x.set(1, 0, Use.bits(-4))) + " "
                + thrown(() -> x.set(2, 0, 1)));
        all.add("columns: " + thrown(() -> x.set(0, 2, Use.bits(1e20))) + " "
                + thrown(() -> x.set(0, 3, 1)));
        all.add("layout " + x.layout(5));
        all.add("lines '" + Use.line(x, 0) + "' '" + Use.line(x, 1) + "'");
        all.add("wipe " + x.wipe());
        return all;
    }

    private static void changesNothing(String call, Consumer<NumberText> doing) {
        NumberText x = used();
        doing.accept(x);
        CHECK.due("after " + call, String.join("\n", told(x, true)),
                String.join("\n", told(used(), true)));
    }

    private static void refuses(String call, Class<? extends RuntimeException> with,
            Consumer<NumberText> doing) {
        changesNothing(call, x -> CHECK.dueThrow(call, with, () -> doing.accept(x)));
    }

    private static void readChangesThePlaceAlone() {
        NumberText x = used();
        CHECK.due("place() before", x.place(), 3);
        CHECK.dueThrow("read()", IllegalArgumentException.class, x::read);
        CHECK.due("place()", x.place(), 6);
        CHECK.dueThrow("read() again", IllegalArgumentException.class, x::read);
        CHECK.due("place()", x.place(), 6);
        CHECK.due("after read()", String.join("\n", told(x, false)),
                String.join("\n", told(used(), false)));
        NumberText y = used();
        thrown(y::read);
        Use.type(y, "1");
        CHECK.dueBits("the text goes on", y.read(), Use.bits(-35));
    }

    private static void digitsChangesNothing() {
        for (int n : FAR) {
            if (n < 1 || n > 17) {
                for (long bits : new long[] {0, Use.bits(1.5), -1L, 0x7ff0000000000000L}) {
                    refuses("digits(" + bits + ", " + n + ")", IllegalArgumentException.class,
                            x -> x.digits(bits, n));
                }
            }
        }
    }

    private static void placesChangesNothing() {
        for (int p : FAR) {
            if (p < 0 || p > 40) {
                for (long bits : new long[] {0, Use.bits(1.5), -1L, 0x7ff0000000000000L}) {
                    refuses("places(" + bits + ", " + p + ")", IllegalArgumentException.class,
                            x -> x.places(bits, p));
                }
            }
        }
    }

    private static void tableChangesNothing() {
        for (int rows : FAR) {
            for (int columns : FAR) {
                if (rows < 1 || rows > 8 || columns < 1 || columns > 8) {
                    refuses("table(" + rows + ", " + columns + ")", IllegalArgumentException.class,
                            x -> x.table(rows, columns));
                }
            }
        }
    }

    private static void setChangesNothing() {
        for (int row : FAR) {
            for (int column : FAR) {
                if (row < 0 || row > 1 || column < 0 || column > 2) {
                    refuses("set(" + row + ", " + column + ")", IndexOutOfBoundsException.class,
                            x -> x.set(row, column, Use.bits(9)));
                }
            }
        }
    }

    private static void layoutChangesNothing() {
        for (int n : FAR) {
            if (n < 1 || n > 17) {
                refuses("layout(" + n + ")", IllegalArgumentException.class, x -> x.layout(n));
            }
        }
    }

    private static void typeWithNoneChangesNothing() {
        long eight = 0x3132333435363738L;
        for (int n : FAR) {
            if (n < 1 || n > 8) {
                changesNothing("type(.., " + n + ")",
                        x -> CHECK.due("type(.., " + n + ")", x.type(eight, n), NumberText.NONE));
            }
        }
        for (int n = 1; n <= 8; n++) {
            int count = n;
            for (int i = 0; i < n; i++) {
                for (long wrong : new long[] {0, 31, 127, 128, 255}) {
                    long characters = eight & ~(255L << 8 * i) | wrong << 8 * i;
                    changesNothing("type(" + Long.toHexString(characters) + ", " + n + ")",
                            x -> CHECK.due("type()", x.type(characters, count), NumberText.NONE));
                }
            }
        }
    }

    private static void looksChangeNothing() {
        for (int i : FAR) {
            changesNothing("character(" + i + ")", x -> x.character(i));
            for (int k : FAR) {
                changesNothing("shown(" + i + ", " + k + ")", x -> x.shown(i, k));
            }
        }
        changesNothing("place()", NumberText::place);
    }

    /** A new object has nothing that a refused call could change, and none is made. */
    private static void emptyStaysEmpty() {
        NumberText x = new NumberText();
        thrown(() -> x.digits(0, 0));
        thrown(() -> x.places(0, -1));
        thrown(() -> x.table(9, 1));
        thrown(() -> x.set(0, 1, 0));
        thrown(() -> x.layout(0));
        x.type(0, 1);
        CHECK.due("place()", x.place(), NumberText.NONE);
        CHECK.due("character(0)", x.character(0), NumberText.NONE);
        CHECK.due("shown(0, 0)", x.shown(0, 0), NumberText.NONE);
        CHECK.due("layout(1)", x.layout(1), 1);
        CHECK.due("wipe()", x.wipe(), 0);
    }
}
