public final class Promise14ShownTest {
    private static final Check CHECK = new Check();

    public static void main(String[] args) {
        NumberText x = new NumberText();
        none(x, 0, 0);
        x.table(2, 2);
        x.set(0, 0, Use.bits(-1));
        x.set(1, 1, Use.bits(0.5));
        none(x, 0, 0);
        CHECK.due("layout(1)", x.layout(1), 7);
        String[] lines = {"-1  0.0", " 0  0.5"};
        for (int row = 0; row < 2; row++) {
            for (int k = 0; k < 7; k++) {
                CHECK.due("shown(" + row + ", " + k + ")", x.shown(row, k), lines[row].charAt(k));
            }
        }
        int[][] nowhere = {{0, 7}, {1, 7}, {0, -1}, {1, -1}, {-1, 0}, {2, 0}, {8, 0}, {0, 320},
            {Integer.MIN_VALUE, 0}, {Integer.MAX_VALUE, 0}, {0, Integer.MIN_VALUE},
            {0, Integer.MAX_VALUE}, {Integer.MAX_VALUE, Integer.MAX_VALUE}};
        for (int[] at : nowhere) {
            none(x, at[0], at[1]);
        }
        showsLatest(x);
        CHECK.end();
    }

    private static void none(NumberText x, int row, int k) {
        CHECK.due("shown(" + row + ", " + k + ")", x.shown(row, k), NumberText.NONE);
    }

    private static void showsLatest(NumberText x) {
        x.set(1, 1, Use.bits(3));
        CHECK.due("line 1 after set()", Use.line(x, 1), " 0  0.5");
        x.layout(1);
        CHECK.due("line 1 after layout()", Use.line(x, 1), " 0  3");
        none(x, 1, 5);
        x.table(2, 2);
        none(x, 0, 0);
        none(x, 1, 0);
        x.layout(1);
        CHECK.due("line 1 of a new table", Use.line(x, 1), "0  0");
    }
}
