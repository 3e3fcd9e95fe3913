public final class Promise11TableTest {
    private static final Check CHECK = new Check();

    public static void main(String[] args) {
        makesAllSizes();
        startsWithZeros();
        refusesWrongSizes();
        leavesTheText();
        CHECK.end();
    }

    private static void makesAllSizes() {
        for (int rows = 1; rows <= 8; rows++) {
            for (int columns = 1; columns <= 8; columns++) {
                NumberText x = new NumberText();
                x.table(rows, columns);
                String size = rows + " x " + columns;
                CHECK.due("layout(1) of " + size, x.layout(1), 3 * columns - 2);
                String line = "0" + "  0".repeat(columns - 1);
                CHECK.due("last line of " + size, Use.line(x, rows - 1), line);
                CHECK.due("line behind of " + size, Use.line(x, rows), "");
            }
        }
    }

    private static void startsWithZeros() {
        NumberText x = Use.table(2, 1.5, 2.5, 3.5, -4.5);
        x.layout(3);
        CHECK.due("line 1", Use.line(x, 1), "3.5  -4.5");
        x.table(2, 2);
        CHECK.due("line 1 of a new table", Use.line(x, 1), "");
        CHECK.due("layout(3) of a new table", x.layout(3), 4);
        CHECK.due("line 0", Use.line(x, 0), "0  0");
        CHECK.due("line 1", Use.line(x, 1), "0  0");
        x.table(1, 3);
        x.table(8, 8);
        CHECK.due("layout(1) of 8 x 8", x.layout(1), 22);
        CHECK.due("line 7", Use.line(x, 7), "0  0  0  0  0  0  0  0");
    }

    private static void leavesTheText() {
        NumberText x = Use.typed("1x");
        CHECK.dueThrow("read()", IllegalArgumentException.class, x::read);
        x.table(8, 8);
        CHECK.due("text", Use.text(x), "1x");
        CHECK.due("place()", x.place(), 1);
    }

    private static void refusesWrongSizes() {
        NumberText x = Use.table(2, 1, 2, 3, 4);
        x.layout(1);
        int[] wrong = {0, -1, 9, Integer.MIN_VALUE, Integer.MAX_VALUE};
        for (int side : wrong) {
            CHECK.dueThrow("table(" + side + ", 1)", IllegalArgumentException.class,
                    () -> x.table(side, 1));
            CHECK.dueThrow("table(8, " + side + ")", IllegalArgumentException.class,
                    () -> x.table(8, side));
        }
        CHECK.due("the lines stay", Use.line(x, 0) + "|" + Use.line(x, 1), "1  2|3  4");
        CHECK.dueThrow("the size stays", IndexOutOfBoundsException.class, () -> x.set(2, 0, 1));
        CHECK.due("layout(1)", x.layout(1), 4);
        CHECK.due("the numbers stay", Use.line(x, 0) + "|" + Use.line(x, 1), "1  2|3  4");
    }
}
