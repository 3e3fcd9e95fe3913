public final class Promise14ShownTest {
    private static final Check CHECK = new Check();

    public static void main(String[] args) {
        NumberText x = new NumberText();
        none(x, 0, 0);
        x.table(2, 2);
        x.set(0, 0, Use.bits(-1));
        x.set(1, 1, Use.bits(0.5));
        none(x, 0, 0);
        CHECK.due("layout(1)", x.layout(1), 7);
        String[] lines = {"-1  0.0", " 0  0.5"};
        for (int row = 0; row < 2; row++) {
            for (int k = 0; k < 7; k++) {
                CHECK.due("shown(" + row + ", " + k + ")", x.shown(row, k), lines[row].charAt(k));
            }
        }
        int[][] nowhere = {{0, 7}, {1, 7}, {0, -1}, {1, -1}, {-1, 0}, {2, 0}, {8, 0}, {0, 320},
            {Integer.MIN_VALUE, 0}, {Integer.MAX_VALUE, 0}, {0, Integer.MIN_VALUE},
            {0, Integer.MAX_VALUE}, {Integer.MAX_VALUE, Integer.MAX_VALUE}};
        for (int[] at : nowhere) {
            none(x, at[0], at[1]);
        }
        showsLatest(x);
        noneBeforeLayout();
        noneInNewTable();
        staysAfterRefused();
        noneBehindShorterLine();
        CHECK.end();
    }

    private static void none(NumberText x, int row, int k) {
        CHECK.due("shown(" + row + ", " + k + ")", x.shown(row, k), NumberText.NONE);
    }

    /** "none is there before the first layout". */
    private static void noneBeforeLayout() {
        NumberText x = new NumberText();
        for (int row = -1; row <= 8; row++) {
            for (int k = -1; k <= 40; k++) {
                none(x, row, k);
            }
        }
        x.set(0, 0, Use.bits(5));
        none(x, 0, 0);
        CHECK.dueThrow("layout(0)", IllegalArgumentException.class, () -> x.layout(0));
        none(x, 0, 0);
        CHECK.due("layout(1)", x.layout(1), 1);
        CHECK.due("shown(0, 0)", x.shown(0, 0), '5');
    }

    /** "and in a new table", of the same size or another one. */
    private static void noneInNewTable() {
        for (int rows = 1; rows <= 8; rows++) {
            NumberText x = Use.table(2, 1, 2, 3, 4);
            x.layout(1);
            x.table(rows, 2);
            for (int row = 0; row < 8; row++) {
                none(x, row, 0);
                none(x, row, 3);
            }
            x.set(0, 0, Use.bits(7));
            none(x, 0, 0);
            x.layout(1);
            CHECK.due("line 0", Use.line(x, 0), "7  0");
            CHECK.due("line behind", Use.line(x, rows), "");
        }
    }

    private static void staysAfterRefused() {
        NumberText x = Use.table(2, 1, 2, 3, 4);
        x.layout(1);
        CHECK.dueThrow("table(0, 1)", IllegalArgumentException.class, () -> x.table(0, 1));
        CHECK.dueThrow("layout(18)", IllegalArgumentException.class, () -> x.layout(18));
        CHECK.dueThrow("set(2, 2)", IndexOutOfBoundsException.class, () -> x.set(2, 2, 0));
        CHECK.due("lines", Use.line(x, 0) + "|" + Use.line(x, 1), "1  2|3  4");
    }

    /** "as laid out latest": nothing is left of a line that was longer. */
    private static void noneBehindShorterLine() {
        NumberText x = Use.table(1, 123456, 1);
        CHECK.due("layout(6)", x.layout(6), 6);
        x.set(0, 0, Use.bits(12));
        CHECK.due("layout(2)", x.layout(2), 2);
        CHECK.due("lines", Use.line(x, 0) + "|" + Use.line(x, 1), "12| 1");
        for (int k = 2; k < 10; k++) {
            none(x, 0, k);
            none(x, 1, k);
        }
    }

    private static void showsLatest(NumberText x) {
        x.set(1, 1, Use.bits(3));
        CHECK.due("line 1 after set()", Use.line(x, 1), " 0  0.5");
        x.layout(1);
        CHECK.due("line 1 after layout()", Use.line(x, 1), " 0  3");
        none(x, 1, 5);
        x.table(2, 2);
        none(x, 0, 0);
        none(x, 1, 0);
        x.layout(1);
        CHECK.due("line 1 of a new table", Use.line(x, 1), "0  0");
    }
}
