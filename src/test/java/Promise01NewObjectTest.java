public final class Promise01NewObjectTest {
    public static void main(String[] args) {
        Check check = new Check();
        hasNoText(check);
        hasTableOfOne(check);
        sharesNothing(check);
        check.end();
    }

    private static void hasNoText(Check check) {
        NumberText x = new NumberText();
        check.due("character(0)", x.character(0), NumberText.NONE);
        check.due("place()", x.place(), NumberText.NONE);
        check.due("wipe()", x.wipe(), 0);
        check.dueThrow("read()", IllegalArgumentException.class, x::read);
        check.due("NONE", NumberText.NONE, -1);
    }

    private static void hasTableOfOne(Check check) {
        NumberText x = new NumberText();
        check.due("shown(0, 0) before layout", x.shown(0, 0), NumberText.NONE);
        check.dueThrow("set(1, 0)", IndexOutOfBoundsException.class, () -> x.set(1, 0, 1));
        check.dueThrow("set(0, 1)", IndexOutOfBoundsException.class, () -> x.set(0, 1, 1));
        check.due("layout(17)", x.layout(17), 1);
        check.due("line 0", Use.line(x, 0), "0");
        check.due("line 1", Use.line(x, 1), "");
        x.set(0, 0, Use.bits(2.5));
        check.due("layout(2)", x.layout(2), 3);
        check.due("line 0", Use.line(x, 0), "2.5");
    }

    private static void sharesNothing(Check check) {
        NumberText used = Use.table(2, 1, 2, 3, 4);
        used.layout(3);
        Use.type(used, "12x");
        check.dueThrow("read()", IllegalArgumentException.class, used::read);
        hasNoText(check);
        hasTableOfOne(check);
        check.due("text", Use.text(used), "12x");
        check.due("place()", used.place(), 2);
        check.due("line 1", Use.line(used, 1), "3  4");
    }
}
