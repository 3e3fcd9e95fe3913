import java.util.Random;
import java.util.function.Supplier;

/** Runs of 512 calls, always the same ones, each answer as the model's: nothing is left behind. */
public final class RunsTest {
    private static final int RUNS = 300;
    private static final int CALLS = 512;
    private static final Random SAME_NUMBERS = new Random(20261116);
    private static final Check CHECK = new Check();
    private static final int[] FAR = {Integer.MIN_VALUE, -1, 0, 1, 7, 8, 9, 17, 18, 40, 41, 1199,
        1200, Integer.MAX_VALUE};
    private static final String[] PIECES = {"0", "1", "25", ".", ".5", "e", "e-", "E+3", "-", "+",
        "inf", "nan", "i", "12345678", "00000000", "99999999", " ", "x", "e-300", "e308", "."};

    private static NumberText x;
    private static Model model;

    public static void main(String[] args) {
        for (int run = 0; run < RUNS; run++) {
            x = new NumberText();
            model = new Model();
            for (int i = 0; i < CALLS; i++) {
                call(run % 4, "run " + run + ", call " + i + ": ");
            }
        }
        CHECK.end();
    }

    private static int below(int bound) {
        return SAME_NUMBERS.nextInt(bound);
    }

    private static int count(int bound) {
        return below(8) == 0 ? FAR[below(FAR.length)] : below(bound);
    }

    private static long bits() {
        switch (below(5)) {
            case 0:
                return SAME_NUMBERS.nextLong();
            case 1:
                return Use.bits(below(20001) / 8.0 - 1250);
            case 2:
                return Use.bits(Double.parseDouble(below(1000) + "e" + (below(30) - 10)));
            case 3:
                return (long) below(2) << 63 | (long) (below(2) * 2047) << 52 | below(2);
            default:
                return Use.bits(Double.parseDouble(below(100) + "e-" + below(7)));
        }
    }

    private static void call(int kind, String name) {
        int die = below(20);
        if (kind == 0 && die < 16 || kind == 1 && die < 8) {
            callOnText(name);
        } else if (kind == 2 && die < 16 || die < 12) {
            callOnTable(name);
        } else {
            callThatWrites(name);
        }
    }

    private static void callOnText(String name) {
        int i = count(30);
        switch (below(12)) {
            case 0:
                due(name + "wipe()", x::wipe, model::wipe);
                break;
            case 1:
                due(name + "read()", x::read, model::read);
                break;
            case 2:
                due(name + "place()", x::place, model::place);
                break;
            case 3:
                due(name + "character(" + i + ")", () -> x.character(i), () -> model.character(i));
                break;
            case 4:
                long any = SAME_NUMBERS.nextLong();
                int n = count(10);
                due(name + "type(" + any + ", " + n + ")", () -> x.type(any, n),
                        () -> model.type(any, n));
                break;
            default:
                type(name, PIECES[below(PIECES.length)]);
        }
    }

    private static void type(String name, String piece) {
        long characters = SAME_NUMBERS.nextInt();
        for (int k = 0; k < piece.length(); k++) {
            characters = characters << 8 | piece.charAt(k);
        }
        long all = characters;
        due(name + "type '" + piece + "'", () -> x.type(all, piece.length()),
                () -> model.type(all, piece.length()));
    }

    private static void callOnTable(String name) {
        int row = count(6);
        int column = count(6);
        int k = count(60);
        int n = count(18);
        long bits = bits();
        switch (below(24)) {
            case 0:
                due(name + "table(" + row + ", " + column + ")", done(() -> x.table(row, column)),
                        done(() -> model.table(row, column)));
                break;
            case 1:
            case 2:
                due(name + "layout(" + n + ")", () -> x.layout(n), () -> model.layout(n));
                break;
            case 3:
            case 4:
            case 5:
            case 6:
                due(name + "set(" + row + ", " + column + ", " + bits + ")",
                        done(() -> x.set(row, column, bits)),
                        done(() -> model.set(row, column, bits)));
                break;
            default:
                due(name + "shown(" + row + ", " + k + ")", () -> x.shown(row, k),
                        () -> model.shown(row, k));
        }
    }

    private static void callThatWrites(String name) {
        int n = count(18);
        int i = count(25);
        long bits = bits();
        switch (below(14)) {
            case 0:
                due(name + "write(" + bits + ")", () -> x.write(bits), () -> model.write(bits));
                break;
            case 1:
                due(name + "digits(" + bits + ", " + n + ")", () -> x.digits(bits, n),
                        () -> model.digits(bits, n));
                break;
            case 2:
                due(name + "places(" + bits + ", " + n + ")", () -> x.places(bits, n),
                        () -> model.places(bits, n));
                break;
            case 3:
                due(name + "full(" + bits + ")", () -> x.full(bits), () -> model.full(bits));
                break;
            case 4:
                due(name + "read()", x::read, model::read);
                break;
            default:
                due(name + "character(" + i + ")", () -> x.character(i), () -> model.character(i));
        }
    }

    private static Supplier<Object> done(Runnable call) {
        return () -> {
            call.run();
            return "done";
        };
    }

    private static void due(String call, Supplier<Object> got, Supplier<Object> want) {
        CHECK.due(call, answer(got), answer(want));
    }

    private static String answer(Supplier<Object> call) {
        try {
            return call.get().toString();
        } catch (RuntimeException e) {
            return "throws." + e.getClass().getSimpleName();
        }
    }
}
