/** Compares answers with those that are due, and prints the ones that differ. */
final class Check {
    private int wrong = 0;

    void due(String call, long got, long want) {
        if (got != want) {
            tell(call, Long.toString(got), Long.toString(want));
        }
    }

    void due(String call, String got, String want) {
        if (!got.equals(want)) {
            tell(call, "'" + got + "'", "'" + want + "'");
        }
    }

    void dueBits(String call, long got, long want) {
        if (got != want) {
            tell(call, Long.toHexString(got), Long.toHexString(want));
        }
    }

    void dueThrow(String call, Class<? extends RuntimeException> want, Runnable doing) {
        String got = "nothing thrown";
        try {
            doing.run();
        } catch (RuntimeException e) {
            got = e.getClass().getName();
        }
        due(call, got, want.getName());
    }

    private void tell(String call, String got, String want) {
        wrong++;
        if (wrong <= 50) {
            System.out.println(call + " answered " + got + ", due is " + want);
        }
    }

    void end() {
        if (wrong > 0) {
            System.out.println(wrong + " answers are not as due");
            System.exit(1);
        }
    }
}
