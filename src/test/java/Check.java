/** Compares answers with those that are due, and prints the ones that differ. */
final class Check {
    private int wrong = 0;

    void due(String call, long got, long want) {
        if (got != want) {
            tell(call, Long.toString(got), Long.toString(want));
        }
    }

    void due(String call, String got, String want) {
        if (!got.equals(want)) {
            int same = 0;
            while (same < Math.min(got.length(), want.length())
                    && got.charAt(same) == want.charAt(same)) {
                same++;
            }
            tell(call, part(got, same), part(want, same));
        }
    }

    /** A long text is told by what stands round the first difference. */
    private static String part(String text, int same) {
        int from = Math.max(0, same - 60);
        int to = Math.min(text.length(), same + 60);
        return (from > 0 ? "[" + from + " ..] '" : "'") + text.substring(from, to)
                + (to < text.length() ? "' [.. of " + text.length() + "]" : "'");
    }

    void dueBits(String call, long got, long want) {
        if (got != want) {
            tell(call, Long.toHexString(got), Long.toHexString(want));
        }
    }

    void dueThrow(String call, Class<? extends RuntimeException> want, Runnable doing) {
        String got = "nothing thrown";
        try {
            doing.run();
        } catch (RuntimeException e) {
            got = e.getClass().getName();
        }
        due(call, got, want.getName());
    }

    private void tell(String call, String got, String want) {
        wrong++;
        if (wrong <= 20) {
            String shortCall = call.length() > 200 ? call.substring(0, 200) + " .." : call;
            System.out.println(shortCall + " answered " + got + ", due is " + want);
        }
    }

    void end() {
        if (wrong > 0) {
            System.out.println(wrong + " answers are not as due");
            System.exit(1);
        }
    }
}
