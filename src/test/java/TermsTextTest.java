/** "THE TEXT has at most 1200 characters." */
public final class TermsTextTest {
    private static final Check CHECK = new Check();
    private static final long EIGHT = 0x3132333435363738L;

    public static void main(String[] args) {
        holds1200();
        refusesTheNext();
        refusesWhatPartlyFits();
        countsWhatIsWritten();
        readsFullText();
        keepsFullTextThatIsWrong();
        isFilledAgain();
        CHECK.end();
    }

    private static void holds1200() {
        StringBuilder all = new StringBuilder();
        for (int i = 0; i < 1200; i++) {
            all.append((char) (32 + i * 7 % 95));
        }
        String text = all.toString();
        // an object is for 512 calls, 150 of which type the text
        for (int from = 0; from < 1200; from += 300) {
            NumberText x = new NumberText();
            CHECK.due("type() of 1200", Use.type(x, text), 1200);
            for (int i = from; i < from + 300; i++) {
                CHECK.due("character(" + i + ")", x.character(i), text.charAt(i));
            }
            CHECK.due("character(1200)", x.character(1200), NumberText.NONE);
        }
    }

    private static void refusesTheNext() {
        for (int n = 1; n <= 8; n++) {
            NumberText x = Use.typed("7".repeat(1200));
            CHECK.due("type(.., " + n + ") behind 1200", x.type(EIGHT, n), NumberText.NONE);
            CHECK.due("character(1199)", x.character(1199), '7');
            CHECK.due("character(1200)", x.character(1200), NumberText.NONE);
            CHECK.due("wipe()", x.wipe(), 1200);
        }
    }

    private static void refusesWhatPartlyFits() {
        for (int n = 1; n <= 8; n++) {
            NumberText x = Use.typed("7".repeat(1201 - n));
            CHECK.due("one too many of " + n, x.type(EIGHT, n), NumberText.NONE);
            CHECK.due("none of them is there", x.character(1201 - n), NumberText.NONE);
            CHECK.due("wipe()", x.wipe(), 1201 - n);
            Use.type(x, "7".repeat(1200 - n));
            CHECK.due("just so many as " + n, x.type(EIGHT, n), 1200);
            CHECK.due("the last of them", x.character(1199), '8');
        }
    }

    private static void countsWhatIsWritten() {
        NumberText x = new NumberText();
        CHECK.due("full(-longest)", x.full(0x801fffffffffffffL), 1077);
        CHECK.due("1197 characters", Use.type(x, "1".repeat(120)), 1197);
        CHECK.due("4 more", x.type(EIGHT, 4), NumberText.NONE);
        CHECK.due("3 more", x.type(EIGHT, 3), 1200);
        CHECK.due("1 more", x.type(EIGHT, 1), NumberText.NONE);
        CHECK.due("write() makes a new one", x.write(0), 1);
    }

    private static void readsFullText() {
        NumberText x = Use.typed("-" + "0".repeat(1194) + "1.25e");
        CHECK.due("1200 in all", x.wipe(), 1200);
        Use.type(x, "-" + "0".repeat(1193) + "1.25e1");
        CHECK.dueBits("read() of 1200", x.read(), Use.bits(-12.5));
        CHECK.due("the text is empty then", x.character(0), NumberText.NONE);
        CHECK.due("there is room again", x.type(EIGHT, 8), 8);
    }

    private static void keepsFullTextThatIsWrong() {
        for (String wrong : new String[] {"e", "x", ".e-", ".5e+"}) {
            NumberText x = Use.typed("1".repeat(1200 - wrong.length()) + wrong);
            CHECK.dueThrow("read() of 1200 with " + wrong, IllegalArgumentException.class, x::read);
            CHECK.due("place()", x.place(), wrong.equals("x") ? 1199 : 1200);
            CHECK.due("the text stays", x.character(1199), wrong.charAt(wrong.length() - 1));
            CHECK.due("wipe()", x.wipe(), 1200);
        }
    }

    private static void isFilledAgain() {
        NumberText x = Use.typed("7".repeat(1200));
        x.wipe();
        CHECK.due("1200 again", Use.type(x, "8".repeat(1200)), 1200);
        CHECK.due("1201", x.type(EIGHT, 1), NumberText.NONE);
        CHECK.due("character(1199)", x.character(1199), '8');
    }
}
