import java.lang.management.ManagementFactory;

/** "All memory is made with the object." */
public final class TermsMemoryTest {
    // far below one small object a call
    private static final long SLACK = 2000;
    private static final long DIGITS = 0x3132333435363738L;

    public static void main(String[] args) {
        Check check = new Check();
        if (!(ManagementFactory.getThreadMXBean()
                instanceof com.sun.management.ThreadMXBean threads)
                || !threads.isThreadAllocatedMemorySupported()) {
            System.out.println("this Java machine does not tell of memory");
            return;
        }
        long sum = use(new NumberText());
        NumberText x = new NumberText();
        long before = threads.getCurrentThreadAllocatedBytes();
        sum += use(x);
        long made = threads.getCurrentThreadAllocatedBytes() - before;
        check.due("calls that answer", sum == 0 ? 0 : 1, 1);
        check.due("memory made by 455 calls stays within the slack", made > SLACK ? made : 0, 0);
        check.end();
    }

    /** The dearest inputs of each call. */
    private static long use(NumberText x) {
        long sum = 0;
        x.table(8, 8);
        for (int i = 0; i < 64; i++) {
            x.set(i / 8, i % 8, Double.doubleToRawLongBits(i / 7.0));
        }
        for (int i = 0; i < 30; i++) {
            sum += x.full(0x801fffffffffffffL - i);
            sum += x.type(DIGITS, 8);
            sum += x.read();
            sum += x.write(0x001fffffffffffffL - i);
            sum += x.type(DIGITS, 3);
            sum += x.character(5);
            sum += x.wipe();
            sum += x.digits(1 + i, 17);
            sum += x.places(0x7fefffffffffffffL - i, 40);
            sum += x.read();
            sum += x.place();
            sum += x.layout(1 + i % 17);
            sum += x.shown(i % 8, i);
        }
        return sum;
    }
}
