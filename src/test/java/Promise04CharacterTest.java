public final class Promise04CharacterTest {
    public static void main(String[] args) {
        Check check = new Check();
        NumberText x = Use.typed("+1.25e-7 x~");
        check.due("text", Use.text(x), "+1.25e-7 x~");
        check.due("character(0)", x.character(0), '+');
        check.due("character(10)", x.character(10), '~');
        for (int i : new int[] {-1, 11, 12, 1199, 1200, Integer.MIN_VALUE, Integer.MAX_VALUE}) {
            check.due("character(" + i + ")", x.character(i), NumberText.NONE);
        }
        NumberText empty = new NumberText();
        for (int i : new int[] {0, 1, -1, Integer.MIN_VALUE, Integer.MAX_VALUE}) {
            check.due("character(" + i + ") of no text", empty.character(i), NumberText.NONE);
        }
        NumberText full = Use.typed("1".repeat(1199) + "2");
        check.due("character(1199) of a full text", full.character(1199), '2');
        for (int i : new int[] {1200, 1201, -1, Integer.MIN_VALUE, Integer.MAX_VALUE}) {
            check.due("character(" + i + ") of a full text", full.character(i), NumberText.NONE);
        }
        x.wipe();
        check.due("character(0) of what is wiped", x.character(0), NumberText.NONE);
        x.write(Use.bits(5));
        check.due("character(0) of a shorter text", x.character(0), '5');
        check.due("character(1) of a shorter text", x.character(1), NumberText.NONE);
        check.end();
    }
}
