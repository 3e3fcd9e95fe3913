/** What README.md tells of the class. */
public final class ReadmeTest {
    private static final Check CHECK = new Check();

    public static void main(String[] args) {
        example();
        numerals();
        openPlaces();
        CHECK.end();
    }

    /** The section "Use", line by line. */
    private static void example() {
        NumberText x = new NumberText();
        CHECK.due("type 0.1", x.type(0x302e31L, 3), 3);
        long tenth = x.read();
        CHECK.dueBits("read 0.1", tenth, 0x3fb999999999999aL);
        CHECK.due("bits", tenth, Double.doubleToRawLongBits(0.1));
        CHECK.due("text read", Use.text(x), "");

        CHECK.due("write", x.write(tenth), 3);
        CHECK.due("text written", Use.text(x), "0.1");
        CHECK.due("character(0)", x.character(0), '0');
        CHECK.due("character(3)", x.character(3), NumberText.NONE);
        CHECK.due("digits", x.digits(tenth, 17), 19);
        CHECK.due("text of digits", Use.text(x), "0.10000000000000001");
        CHECK.due("places", x.places(tenth, 2), 4);
        CHECK.due("text of places", Use.text(x), "0.10");
        CHECK.due("full", x.full(tenth), 57);
        CHECK.due("text in full", Use.text(x),
                "0.1000000000000000055511151231257827021181583404541015625");

        x.table(2, 1);
        x.set(0, 0, tenth);
        x.set(1, 0, 0x4024000000000000L);
        CHECK.due("layout", x.layout(3), 4);
        CHECK.due("line 0", Use.line(x, 0), " 0.1");
        CHECK.due("line 1", Use.line(x, 1), "10.0");
        CHECK.due("shown(1, 0)", x.shown(1, 0), '1');

        CHECK.due("wipe", x.wipe(), 57);
        CHECK.due("type 1-2", x.type(0x312d32L, 3), 3);
        CHECK.dueThrow("read 1-2", IllegalArgumentException.class, x::read);
        CHECK.due("place", x.place(), 1);
        CHECK.due("text refused", Use.text(x), "1-2");
    }

    private static void numerals() {
        CHECK.dueBits("-12.5e3", Use.read("-12.5e3"), Use.bits(-12500));
        CHECK.dueBits(".5", Use.read(".5"), Use.bits(0.5));
        CHECK.dueBits("5.", Use.read("5."), Use.bits(5));
        CHECK.dueBits("inf", Use.read("inf"), Use.bits(Double.POSITIVE_INFINITY));
        CHECK.dueBits("+inf", Use.read("+inf"), Use.bits(Double.POSITIVE_INFINITY));
        CHECK.dueBits("-inf", Use.read("-inf"), Use.bits(Double.NEGATIVE_INFINITY));
        CHECK.dueBits("nan", Use.read("nan"), 0x7ff8000000000000L);
    }

    /** The section "Where the document is open". */
    private static void openPlaces() {
        CHECK.due("9.5", Use.written(x -> x.digits(Use.bits(9.5), 1)), "10");
        CHECK.due("123", Use.lines(() -> Use.table(1, 123), 1, 1)[0], "123");
    }
}
