public final class Promise12SetTest {
    private static final Check CHECK = new Check();

    public static void main(String[] args) {
        setsEachNumber();
        refusesWhereNoneIs();
        keepsWhatIsLaidOut();
        knowsItsSize();
        CHECK.end();
    }

    private static void setsEachNumber() {
        NumberText x = new NumberText();
        x.table(8, 8);
        for (int row = 0; row < 8; row++) {
            for (int column = 0; column < 8; column++) {
                x.set(row, column, Use.bits(row + 1));
            }
        }
        x.set(3, 5, Use.bits(9));
        x.set(5, 3, Use.bits(8));
        x.layout(1);
        CHECK.due("line 0", Use.line(x, 0), "1  1  1  1  1  1  1  1");
        CHECK.due("line 3", Use.line(x, 3), "4  4  4  4  4  9  4  4");
        CHECK.due("line 5", Use.line(x, 5), "6  6  6  8  6  6  6  6");
        CHECK.due("line 7", Use.line(x, 7), "8  8  8  8  8  8  8  8");
    }

    private static void refusesWhereNoneIs() {
        NumberText x = Use.table(3, 1, 2, 3, 4, 5, 6);
        int[][] wrong = {{2, 0}, {0, 3}, {-1, 0}, {0, -1}, {2, 3}, {7, 0}, {0, 7}, {1, -1},
            {Integer.MAX_VALUE, 0}, {0, Integer.MAX_VALUE}, {Integer.MIN_VALUE, 0},
            {0, Integer.MIN_VALUE}, {536870912, 0}};
        for (int[] at : wrong) {
            CHECK.dueThrow("set(" + at[0] + ", " + at[1] + ")", IndexOutOfBoundsException.class,
                    () -> x.set(at[0], at[1], Use.bits(7)));
        }
        x.layout(1);
        CHECK.due("nothing is changed", Use.line(x, 0) + "|" + Use.line(x, 1), "1  2  3|4  5  6");
    }

    /** "when there is no such row or column": in tables of each size. */
    private static void knowsItsSize() {
        for (int rows = 1; rows <= 8; rows++) {
            for (int columns = 1; columns <= 8; columns++) {
                NumberText x = new NumberText();
                x.table(rows, columns);
                for (int row = -1; row <= 8; row++) {
                    for (int column = -1; column <= 8; column++) {
                        boolean there = row >= 0 && row < rows && column >= 0 && column < columns;
                        CHECK.due("set(" + row + ", " + column + ") of " + rows + " x " + columns,
                                isSet(x, row, column) ? 1 : 0, there ? 1 : 0);
                    }
                }
                CHECK.due("layout(1)", x.layout(1), 3 * columns - 2);
                String line = "5" + "  5".repeat(columns - 1);
                CHECK.due("first line", Use.line(x, 0), line);
                CHECK.due("last line", Use.line(x, rows - 1), line);
                CHECK.due("line behind", Use.line(x, rows), "");
            }
        }
    }

    private static boolean isSet(NumberText x, int row, int column) {
        try {
            x.set(row, column, Use.bits(5));
            return true;
        } catch (IndexOutOfBoundsException e) {
            return false;
        }
    }

    private static void keepsWhatIsLaidOut() {
        NumberText x = Use.table(1, 1, 2);
        x.layout(1);
        x.set(0, 0, Use.bits(77));
        CHECK.due("line 0 before layout", Use.line(x, 0), "1");
        CHECK.due("layout(2)", x.layout(2), 2);
        CHECK.due("line 0", Use.line(x, 0), "77");
        CHECK.due("line 1", Use.line(x, 1), " 2");
    }
}
