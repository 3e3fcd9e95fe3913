public final class Promise02TypeTest {
    private static final long EIGHT = 0x3132333435363738L;

    public static void main(String[] args) {
        Check check = new Check();
        typesHighestByteFirst(check);
        typesOneToEight(check);
        typesFrom32To126(check);
        refusesWrongCounts(check);
        refusesWrongCharacters(check);
        refusesMoreThan1200(check);
        typesBehindWhatIsWritten(check);
        check.end();
    }

    private static void typesHighestByteFirst(Check check) {
        NumberText x = new NumberText();
        check.due("type(12..8, 8)", x.type(EIGHT, 8), 8);
        check.due("type(12..8, 3)", x.type(EIGHT, 3), 11);
        check.due("type(12..8, 1)", x.type(EIGHT, 1), 12);
        check.due("text", Use.text(x), "123456786788");
        check.due("bytes above are not looked at", x.type(0xffff00ff0000007eL, 1), 13);
        check.due("character(12)", x.character(12), '~');
        check.due("a blank", x.type(32, 1), 14);
        check.due("character(13)", x.character(13), ' ');
    }

    /** "Types n characters, the lowest n bytes", n from 1 to 8. */
    private static void typesOneToEight(Check check) {
        for (int n = 1; n <= 8; n++) {
            NumberText x = new NumberText();
            check.due("type(12..8, " + n + ")", x.type(EIGHT, n), n);
            check.due("text of " + n, Use.text(x), "12345678".substring(8 - n));
            check.due("type(12..8, " + n + ") again", x.type(EIGHT, n), 2 * n);
        }
    }

    /** "one is not 32 .. 126": each of these can be typed, at each place. */
    private static void typesFrom32To126(Check check) {
        for (int c = 0; c < 256; c++) {
            boolean typed = c >= 32 && c <= 126;
            NumberText x = new NumberText();
            int length = 0;
            for (int n = 1; n <= 8; n++) {
                for (int i = 0; i < n; i++) {
                    long characters = EIGHT & ~(255L << 8 * i) | (long) c << 8 * i;
                    length += typed ? n : 0;
                    check.due("type() with " + c + " at byte " + i + " of " + n,
                            x.type(characters, n), typed ? length : NumberText.NONE);
                    check.due("its character", x.character(length - 1 - i),
                            typed ? c : NumberText.NONE);
                }
            }
        }
    }

    private static void refusesWrongCounts(Check check) {
        NumberText x = Use.typed("ab");
        for (int n : new int[] {0, -1, 9, 16, Integer.MIN_VALUE, Integer.MAX_VALUE}) {
            check.due("type(.., " + n + ")", x.type(EIGHT, n), NumberText.NONE);
        }
        check.due("text", Use.text(x), "ab");
    }

    private static void refusesWrongCharacters(Check check) {
        NumberText x = Use.typed("ab");
        for (int c : new int[] {0, 1, 10, 31, 127, 128, 200, 255}) {
            check.due("type(" + c + ", 1)", x.type(c, 1), NumberText.NONE);
            check.due("last is " + c, x.type(0x3131313131313100L | c, 8), NumberText.NONE);
            check.due("first is " + c, x.type(0x31313131L | (long) c << 32, 5), NumberText.NONE);
        }
        check.due("text", Use.text(x), "ab");
        check.due("wipe()", x.wipe(), 2);
    }

    private static void refusesMoreThan1200(Check check) {
        NumberText x = new NumberText();
        check.due("1195 characters", Use.type(x, "7".repeat(1195)), 1195);
        check.due("8 more", x.type(EIGHT, 8), NumberText.NONE);
        check.due("6 more", x.type(EIGHT, 6), NumberText.NONE);
        check.due("character(1195)", x.character(1195), NumberText.NONE);
        check.due("5 more", x.type(EIGHT, 5), 1200);
        check.due("character(1199)", x.character(1199), '8');
        check.due("1 more", x.type(EIGHT, 1), NumberText.NONE);
        check.due("wipe()", x.wipe(), 1200);
        check.due("8 then", x.type(EIGHT, 8), 8);
    }

    private static void typesBehindWhatIsWritten(Check check) {
        NumberText x = new NumberText();
        x.write(Use.bits(1.5));
        check.due("behind write()", Use.type(x, "e2"), 5);
        check.due("text", Use.text(x), "1.5e2");
        check.dueBits("read()", x.read(), Use.bits(150));
        x.places(Use.bits(0.25), 1);
        check.due("behind places()", Use.type(x, "5"), 4);
        check.due("text", Use.text(x), "0.25");
        x.digits(Use.bits(0.5), 2);
        check.due("behind digits()", Use.type(x, "7"), 5);
        check.due("text", Use.text(x), "0.507");
        x.full(1);
        check.due("behind full()", x.type(EIGHT, 8), 1084);
    }
}
