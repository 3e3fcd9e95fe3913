public final class Promise03WipeTest {
    public static void main(String[] args) {
        Check check = new Check();
        NumberText x = new NumberText();
        check.due("wipe() of nothing", x.wipe(), 0);
        Use.type(x, "12345678901");
        check.due("wipe()", x.wipe(), 11);
        check.due("character(0)", x.character(0), NumberText.NONE);
        check.due("wipe() again", x.wipe(), 0);
        x.write(Use.bits(-0.5));
        check.due("wipe() of what is written", x.wipe(), 4);
        Use.type(x, "7");
        check.due("text", Use.text(x), "7");
        x.set(0, 0, Use.bits(3));
        x.layout(1);
        x.wipe();
        check.due("the table stays", Use.line(x, 0), "3");
        check.end();
    }
}
