public final class Promise03WipeTest {
    public static void main(String[] args) {
        Check check = new Check();
        NumberText x = new NumberText();
        check.due("wipe() of nothing", x.wipe(), 0);
        Use.type(x, "12345678901");
        check.due("wipe()", x.wipe(), 11);
        check.due("character(0)", x.character(0), NumberText.NONE);
        check.due("wipe() again", x.wipe(), 0);
        x.write(Use.bits(-0.5));
        check.due("wipe() of what is written", x.wipe(), 4);
        Use.type(x, "7");
        check.due("text", Use.text(x), "7");
        x.set(0, 0, Use.bits(3));
        x.layout(1);
        x.wipe();
        check.due("the table stays", Use.line(x, 0), "3");
        Use.type(x, "7".repeat(1200));
        check.due("wipe() of a full text", x.wipe(), 1200);
        check.due("wipe() of none", x.wipe(), 0);
        check.due("character(1199)", x.character(1199), NumberText.NONE);
        Use.type(x, "1x");
        check.dueThrow("read()", IllegalArgumentException.class, x::read);
        check.due("wipe() of a wrong text", x.wipe(), 2);
        check.due("the place stays", x.place(), 1);
        x.full(1);
        check.due("wipe() of a number in full", x.wipe(), 1076);
        check.end();
    }
}
