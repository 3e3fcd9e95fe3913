/** THE TABLE, and how it is LAID OUT. */
public final class TermsTableTest {
    private static final double INF = Double.POSITIVE_INFINITY;
    private static final double NAN = Double.NaN;
    private static final Check CHECK = new Check();

    public static void main(String[] args) {
        allAre0AtFirst();
        eachColumnByItself();
        plainIfAllWouldBe();
        rowsDoNotMatterForPlain();
        finiteButZeroAreAsked();
        leastPlaces();
        noPlacesIfThereAreNone();
        numberItselfIsWritten();
        scientificWhateverPoint();
        zeroAmongScientific();
        widthOfLongest();
        widthOfSmallerTable();
        twoBlanksBetween();
        widestOfAll();
        CHECK.end();
    }

    /** One column. */
    private static void due(int n, String lines, double... numbers) {
        CHECK.due("layout(" + n + ") of " + java.util.Arrays.toString(numbers),
                String.join("|", Use.lines(() -> Use.table(1, numbers), numbers.length, n)), lines);
    }

    /** "rows and columns of numbers, all 0 at first". */
    private static void allAre0AtFirst() {
        NumberText x = new NumberText();
        x.table(8, 8);
        CHECK.due("layout(17)", x.layout(17), 22);
        for (int row = 0; row < 8; row++) {
            CHECK.due("line " + row, Use.line(x, row), "0  0  0  0  0  0  0  0");
        }
    }

    /** "in each column each number gets a text". */
    private static void eachColumnByItself() {
        NumberText x = Use.table(4, 1, 1, 1, NAN, 0.5, 1e16, 2, -INF);
        CHECK.due("layout(1)", x.layout(1), 3 + 2 + 4 + 2 + 1 + 2 + 4);
        CHECK.due("line 0", Use.line(x, 0), "1.0   1e0  1   nan");
        CHECK.due("line 1", Use.line(x, 1), "0.5  1e16  2  -inf");
    }

    /** "If all its finite numbers but 0, rounded to n digits, would be written PLAIN". */
    private static void plainIfAllWouldBe() {
        due(1, "0.0001", 0.0001);
        due(1, "1e-5", 0.00001);
        due(1, "1000000000000000", 1e15);
        due(1, "1e16", 1e16);
        due(16, "9999999999999998", 9999999999999998.0);
        due(15, "1.00000000000000e16", 9999999999999998.0);
        due(1, "0.0001", 0.00009999);
        due(3, "0.0001", 0.00009999);
        due(4, "9.999e-5", 0.00009999);
        due(1, "0.0001|1.0000", 0.0001, 1);
        due(1, "1000000000000000.0000|               0.0001", 1e15, 0.0001);
    }

    /** One that would not be is enough, wherever it is. */
    private static void rowsDoNotMatterForPlain() {
        for (int row = 0; row < 8; row++) {
            double[] numbers = {1, 1, 1, 1, 1, 1, 1, 1};
            String[] lines = new String[8];
            numbers[row] = 1e16;
            for (int i = 0; i < 8; i++) {
                lines[i] = i == row ? "1e16" : " 1e0";
            }
            due(1, String.join("|", lines), numbers);
            numbers[row] = 0.00001;
            for (int i = 0; i < 8; i++) {
                lines[i] = i == row ? "1e-5" : " 1e0";
            }
            due(1, String.join("|", lines), numbers);
        }
    }

    /** 0, INFINITE and no number do not make a column scientific, or add places. */
    private static void finiteButZeroAreAsked() {
        due(2, " 1.5| 0.0|-0.0| inf|-inf| nan", 1.5, 0.0, -0.0, INF, -INF, NAN);
        due(2, "   0|  -0| inf|-inf| nan|   5", 0.0, -0.0, INF, -INF, NAN, 5);
        due(2, "     0|    -0|   inf|  -inf|   nan|1.5e20", 0.0, -0.0, INF, -INF, NAN, 1.5e20);
    }

    /** "p being the least number for which all of them, rounded .., are multiples of 10^-p". */
    private static void leastPlaces() {
        due(17, "1.5", 1.5);
        due(17, "1.50|0.25", 1.5, 0.25);
        due(17, "100|  5", 100, 5);
        due(3, "100", 99.96);
        due(3, "1", 0.9996);
        due(4, "0.9996", 0.9996);
        due(2, "0.12", 0.125);
        due(3, "0.125", 0.125);
        due(1, "0.001|0.250", 0.001, 0.25);
        due(1, "0.250|0.001", 0.25, 0.001);
        due(17, "0.00012345678901234567", 0.00012345678901234567);
        due(16, "0.0001234567890123457", 0.00012345678901234567);
        for (int p = 0; p <= 4; p++) {
            double ten = Double.parseDouble("1e-" + p);
            due(1, p == 0 ? "1" : "0." + "0".repeat(p - 1) + "1", ten);
            due(1, p == 0 ? "7|1" : "7." + "0".repeat(p) + "|0." + "0".repeat(p - 1) + "1", 7, ten);
        }
        // zeros behind are no places: 10 and 1200 are multiples of 10^0
        due(17, "  10|1200", 10, 1200);
        due(2, "  10.0|1234.6|   0.5", 10, 1234.56, 0.5);
    }

    /** "(0, if there are none)". */
    private static void noPlacesIfThereAreNone() {
        due(17, "0", 0.0);
        due(17, " 0|-0", 0.0, -0.0);
        due(17, "nan|inf", NAN, INF);
        due(1, "   0| nan|-inf", 0.0, NAN, -INF);
    }

    /** "each finite number itself, not the rounded one, is written to p places". */
    private static void numberItselfIsWritten() {
        due(1, "123", 123);
        due(1, "123|  0", 123, 0.0);
        due(1, "123.5|  0.1", 123.456, 0.1);
        due(1, "99999", 99999);
        due(2, "99999|    1", 99999, 1);
        due(2, "99999.2|    1.5", 99999.25, 1.5);
        due(2, "99999.8|    1.5", 99999.75, 1.5);
        due(1, "2|4", 2.5, 3.5);
        due(1, "9007199254740994.0|               0.5", 9007199254740994.0, 0.5);
    }

    /** "written as its decimal rounded to n digits, SCIENTIFIC whatever P is". */
    private static void scientificWhateverPoint() {
        for (int e = -4; e <= 15; e++) {
            String small = "1e" + e;
            String blanks = " ".repeat(4 - small.length());
            due(1, blanks + small + "|1e16", Double.parseDouble(small), 1e16);
        }
        due(1, "  1e0| 1e15| 1e16| 1e99|1e100|1e-99", 1, 1e15, 1e16, 1e99, 1e100, 1e-99);
        due(3, " 1.23e2|-9.99e0| 1.00e1|1.00e16", 123.456, -9.99, 9.999, 1e16);
        due(2, " 2.2e0| 3.8e0| 9.9e0| 1.0e1|1.0e20", 2.25, 3.75, 9.875, 9.975, 1e20);
        due(17, "-4.9406564584124654e-324|  1.7976931348623157e308", -5e-324, Double.MAX_VALUE);
        due(1, "-5e-324|  2e308", -5e-324, Double.MAX_VALUE);
    }

    /** "and 0 as '0' or '-0'". */
    private static void zeroAmongScientific() {
        due(3, "1.00e16|      0|     -0", 1e16, 0.0, -0.0);
        due(1, "1e-5|   0|  -0", 1e-5, 0.0, -0.0);
        due(9, "             0|1.00000000e100", 0.0, 1e100);
    }

    /** "The WIDTH of a column is that of its longest text; shorter ones have blanks in front." */
    private static void widthOfLongest() {
        due(5, "    1|   10|  100|-1000|10000", 1, 10, 100, -1000, 10000);
        due(5, "10000|-1000|  100|   10|    1", 10000, -1000, 100, 10, 1);
        due(1, "nan|  1", NAN, 1);
        due(1, "-inf|   1| nan", -INF, 1, NAN);
        due(1, "-0| 0", -0.0, 0.0);
        due(2, "-0.0| 0.5", -0.0, 0.5);
        due(2, "1.0|0.5", 1, 0.5);
        due(1, "-1e-20|   1e0|   nan", -1e-20, 1, NAN);
    }

    /** Nothing of a table that had more rows, or wider ones, is left. */
    private static void widthOfSmallerTable() {
        for (int rows = 1; rows < 8; rows++) {
            NumberText x = Use.table(1, 1, 1, 1, 1, 1, 1, 1, 1);
            for (int row = 0; row < 8; row++) {
                x.set(row, 0, Use.bits(1000000 + row));
            }
            CHECK.due("layout(7) of 8 rows", x.layout(7), 7);
            x.table(rows, 2);
            CHECK.due("layout(7) of " + rows + " rows", x.layout(7), 4);
            CHECK.due("line 0", Use.line(x, 0), "0  0");
            x.set(rows - 1, 1, Use.bits(-12));
            CHECK.due("layout(2) of " + rows + " rows", x.layout(2), 6);
            CHECK.due("last line", Use.line(x, rows - 1), "0  -12");
        }
    }

    /** "A LINE are the texts of a row, with two blanks between." */
    private static void twoBlanksBetween() {
        for (int columns = 1; columns <= 8; columns++) {
            double[] numbers = new double[2 * columns];
            StringBuilder first = new StringBuilder();
            StringBuilder second = new StringBuilder();
            for (int column = 0; column < columns; column++) {
                numbers[column] = column + 1;
                numbers[columns + column] = 10 + column;
                first.append(column == 0 ? " " : "   ").append(column + 1);
                second.append(column == 0 ? "" : "  ").append(10 + column);
            }
            NumberText x = Use.table(columns, numbers);
            CHECK.due("layout(2) of " + columns, x.layout(2), 4 * columns - 2);
            CHECK.due("line 0 of " + columns, Use.line(x, 0), first.toString());
            CHECK.due("line 1 of " + columns, Use.line(x, 1), second.toString());
        }
    }

    /** Sixteen digits in front of the point and twenty behind it, in all columns. */
    private static void widestOfAll() {
        double[] numbers = new double[64];
        for (int i = 0; i < 64; i++) {
            numbers[i] = i < 32 ? -9999999999999998.0 : -0.00012345678901234567;
        }
        String big = "-9999999999999998." + "0".repeat(20);
        String small = " ".repeat(15) + "-0.00012345678901234567";
        String[] lines = Use.lines(() -> Use.table(8, numbers), 8, 17);
        for (int row = 0; row < 8; row++) {
            String text = row < 4 ? big : small;
            CHECK.due("line " + row, lines[row], text + ("  " + text).repeat(7));
            CHECK.due("its length", lines[row].length(), 8 * 38 + 7 * 2);
        }
    }
}
