/** The document's face, told a second time over texts and doubles of the Java library. */
final class Model {
    private String text = "";
    private int place = NumberText.NONE;
    private double[][] table = new double[1][1];
    private String[] lines = {};

    int type(long characters, int n) {
        if (n < 1 || n > 8 || text.length() + n > 1200) {
            return NumberText.NONE;
        }
        StringBuilder typed = new StringBuilder();
        for (int i = n - 1; i >= 0; i--) {
            char c = (char) (characters >> 8 * i & 255);
            if (c < 32 || c > 126) {
                return NumberText.NONE;
            }
            typed.append(c);
        }
        text += typed;
        return text.length();
    }

    int wipe() {
        int gone = text.length();
        text = "";
        return gone;
    }

    int character(int i) {
        return i >= 0 && i < text.length() ? text.charAt(i) : NumberText.NONE;
    }

    long read() {
        int wrong = Oracle.wrongPlace(text);
        if (wrong != NumberText.NONE) {
            place = wrong;
            throw new IllegalArgumentException();
        }
        long bits = Oracle.read(text);
        text = "";
        return bits;
    }

    int place() {
        return place;
    }

    private int become(String written) {
        text = written;
        return text.length();
    }

    int write(long bits) {
        return become(Oracle.write(Double.longBitsToDouble(bits)));
    }

    int digits(long bits, int n) {
        require(n >= 1 && n <= 17);
        return become(Oracle.digits(Double.longBitsToDouble(bits), n));
    }

    int places(long bits, int p) {
        require(p >= 0 && p <= 40);
        return become(Oracle.places(Double.longBitsToDouble(bits), p));
    }

    int full(long bits) {
        return become(Oracle.full(Double.longBitsToDouble(bits)));
    }

    void table(int rows, int columns) {
        require(rows >= 1 && rows <= 8 && columns >= 1 && columns <= 8);
        table = new double[rows][columns];
        lines = new String[] {};
    }

    void set(int row, int column, long bits) {
        if (row < 0 || row >= table.length || column < 0 || column >= table[0].length) {
            throw new IndexOutOfBoundsException();
        }
        table[row][column] = Double.longBitsToDouble(bits);
    }

    int layout(int n) {
        require(n >= 1 && n <= 17);
        int columns = table[0].length;
        double[] numbers = new double[table.length * columns];
        for (int i = 0; i < numbers.length; i++) {
            numbers[i] = table[i / columns][i % columns];
        }
        lines = Oracle.lines(columns, n, numbers);
        return lines[0].length();
    }

    int shown(int row, int k) {
        return row >= 0 && row < lines.length && k >= 0 && k < lines[row].length()
                ? lines[row].charAt(k) : NumberText.NONE;
    }

    private static void require(boolean holds) {
        if (!holds) {
            throw new IllegalArgumentException();
        }
    }
}
