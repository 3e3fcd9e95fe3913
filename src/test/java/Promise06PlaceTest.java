public final class Promise06PlaceTest {
    public static void main(String[] args) {
        Check check = new Check();
        NumberText x = Use.typed("1");
        check.due("place() before any", x.place(), NumberText.NONE);
        x.read();
        check.due("place() after a numeral", x.place(), NumberText.NONE);
        wrong(check, x, "12x", 2);
        x.wipe();
        check.due("place() after wipe()", x.place(), 2);
        Use.type(x, "3");
        x.read();
        check.due("place() after a numeral", x.place(), 2);
        wrong(check, x, "x", 0);
        wrong(check, x, "1", 0);
        x.write(Use.bits(1));
        wrong(check, x, "e+", 3);
        check.dueThrow("digits", IllegalArgumentException.class, () -> x.digits(1, 0));
        check.due("place() after another throw", x.place(), 3);
        staysWithoutWrongText(check);
        check.end();
    }

    /** "NONE before any": nothing but read() of a wrong text tells of a place. */
    private static void staysWithoutWrongText(Check check) {
        NumberText x = Use.typed("wrong");
        x.type(0, 1);
        x.type('1', 9);
        x.wipe();
        x.write(Use.bits(0.1));
        x.full(-1L);
        x.read();
        x.layout(3);
        check.dueThrow("places", IllegalArgumentException.class, () -> x.places(1, 41));
        check.dueThrow("set", IndexOutOfBoundsException.class, () -> x.set(1, 0, 1));
        check.due("place() before any", x.place(), NumberText.NONE);
        wrong(check, x, "", 0);
        wrong(check, x, "7".repeat(100) + "e", 101);
        x.wipe();
        wrong(check, x, "", 0);
    }

    private static void wrong(Check check, NumberText x, String typed, int place) {
        Use.type(x, typed);
        check.dueThrow("read() of " + Use.text(x), IllegalArgumentException.class, x::read);
        check.due("place() of " + Use.text(x), x.place(), place);
    }
}
