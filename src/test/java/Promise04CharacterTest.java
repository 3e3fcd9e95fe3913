public final class Promise04CharacterTest {
    public static void main(String[] args) {
        Check check = new Check();
        NumberText x = Use.typed("+1.25e-7 x~");
        check.due("text", Use.text(x), "+1.25e-7 x~");
        check.due("character(0)", x.character(0), '+');
        check.due("character(10)", x.character(10), '~');
        for (int i : new int[] {-1, 11, 12, 1199, 1200, Integer.MIN_VALUE, Integer.MAX_VALUE}) {
            check.due("character(" + i + ")", x.character(i), NumberText.NONE);
        }
        x.wipe();
        x.write(Use.bits(5));
        check.due("character(0) of a shorter text", x.character(0), '5');
        check.due("character(1) of a shorter text", x.character(1), NumberText.NONE);
        check.end();
    }
}
