import java.util.function.Supplier;
import java.util.function.ToIntFunction;

/** Ways to use the class by whole texts; none of them makes over 512 calls on one object. */
final class Use {
    private static final int CHARACTERS_OF_ONE_OBJECT = 300;

    private Use() {
    }

    static long bits(double number) {
        return Double.doubleToRawLongBits(number);
    }

    /** What type() answered last. */
    static int type(NumberText x, String text) {
        int answer = NumberText.NONE;
        for (int i = 0; i < text.length(); i += 8) {
            String part = text.substring(i, Math.min(text.length(), i + 8));
            long characters = 0;
            for (int k = 0; k < part.length(); k++) {
                characters = characters << 8 | part.charAt(k);
            }
            answer = x.type(characters, part.length());
        }
        return answer;
    }

    static NumberText typed(String text) {
        NumberText x = new NumberText();
        type(x, text);
        return x;
    }

    static long read(String text) {
        return typed(text).read();
    }

    /** The text of a short-lived object, up to its end. */
    static String text(NumberText x) {
        StringBuilder all = new StringBuilder();
        for (int c = x.character(0); c != NumberText.NONE; c = x.character(all.length())) {
            all.append((char) c);
        }
        return all.toString();
    }

    /** The text that a call makes; what is wrong with its length is told in the text. */
    static String written(ToIntFunction<NumberText> call) {
        NumberText x = new NumberText();
        int length = call.applyAsInt(x);
        StringBuilder all = new StringBuilder();
        for (int i = 0; i < length; i++) {
            if (i % CHARACTERS_OF_ONE_OBJECT == CHARACTERS_OF_ONE_OBJECT - 1) {
                x = new NumberText();
                call.applyAsInt(x);
            }
            all.append((char) x.character(i));
        }
        if (x.character(length) != NumberText.NONE) {
            all.append(" (and more than ").append(length).append(" characters)");
        }
        return all.toString();
    }

    /** The lines of a table, each shown by an object of its own. */
    static String[] lines(Supplier<NumberText> withTable, int rows, int n) {
        String[] lines = new String[rows];
        for (int row = 0; row < rows; row++) {
            NumberText x = withTable.get();
            int length = x.layout(n);
            lines[row] = line(x, row);
            if (lines[row].length() != length) {
                lines[row] += " (layout told of " + length + " characters)";
            }
        }
        return lines;
    }

    static String line(NumberText x, int row) {
        StringBuilder all = new StringBuilder();
        for (int c = x.shown(row, 0); c != NumberText.NONE; c = x.shown(row, all.length())) {
            all.append((char) c);
        }
        return all.toString();
    }

    /** A table of so many columns, its numbers row by row. */
    static NumberText table(int columns, double... numbers) {
        NumberText x = new NumberText();
        x.table(numbers.length / columns, columns);
        for (int i = 0; i < numbers.length; i++) {
            x.set(i / columns, i % columns, bits(numbers[i]));
        }
        return x;
    }
}
