public final class Promise06PlaceTest {
    public static void main(String[] args) {
        Check check = new Check();
        NumberText x = Use.typed("1");
        check.due("place() before any", x.place(), NumberText.NONE);
        x.read();
        check.due("place() after a numeral", x.place(), NumberText.NONE);
        wrong(check, x, "12x", 2);
        x.wipe();
        check.due("place() after wipe()", x.place(), 2);
        Use.type(x, "3");
        x.read();
        check.due("place() after a numeral", x.place(), 2);
        wrong(check, x, "x", 0);
        wrong(check, x, "1", 0);
        x.write(Use.bits(1));
        wrong(check, x, "e+", 3);
        check.dueThrow("digits", IllegalArgumentException.class, () -> x.digits(1, 0));
        check.due("place() after another throw", x.place(), 3);
        check.end();
    }

    private static void wrong(Check check, NumberText x, String typed, int place) {
        Use.type(x, typed);
        check.dueThrow("read() of " + Use.text(x), IllegalArgumentException.class, x::read);
        check.due("place() of " + Use.text(x), x.place(), place);
    }
}
