/** Every method with arguments far out of range, in an empty and in a busy state: errors that change nothing. */
public final class EdgesTest {
    private static final int UNKNOWN = -1;
    private static final int BAD_VALUE = -2;
    private static final int[] ODD = {
        Integer.MIN_VALUE, Integer.MIN_VALUE + 1, -65536, -257, -256, -24, -16, -8, -5, -1,
        0, 1, 2, 3, 4, 7, 8, 10, 11, 14, 15, 16, 23, 24, 25, 80, 255, 256, 257, 9999, 10000, 65536,
        Integer.MAX_VALUE - 1, Integer.MAX_VALUE
    };

    private final Due due = new Due("EdgesTest");

    public static void main(String[] args) {
        EdgesTest test = new EdgesTest();
        for (int first : ODD) {
            test.oneArgument(first);
            for (int second : ODD) {
                test.twoArguments(first, second);
                for (int third : ODD) {
                    test.threeArguments(first, second, third);
                }
            }
        }
        test.due.close();
    }

    private static boolean in(int number, int highest) {
        return number >= 0 && number <= highest;
    }

    private static SnoopFilter busy() {
        SnoopFilter x = new SnoopFilter();
        x.write(0, 0, 5);
        x.read(1, 0);
        x.write(1, 255, 9999);
        return x;
    }

    /** An error is told as it is due; where none is due, the answer is none of the errors before NOT_POSSIBLE. */
    private void check(String call, int got, int error) {
        due.holds(call + " answered " + got, error != 0 ? got == error : got != UNKNOWN && got != BAD_VALUE);
    }

    private void unchanged(String call, SnoopFilter x, int error) {
        if (error != 0) {
            due.is("states behind " + call, x.count(12), 3);
        }
    }

    private void oneArgument(int a) {
        SnoopFilter x = busy();
        int core = in(a, 3) ? 0 : UNKNOWN;
        check("stopped(" + a + ")", x.stopped(a), in(a, 1) ? 0 : BAD_VALUE);
        check("vain(" + a + ")", x.vain(a), core);
        check("count(" + a + ")", x.count(a), in(a, 13) ? 0 : BAD_VALUE);
        check("forget(" + a + ")", x.forget(a), core);
        unchanged("forget(" + a + ")", x, core);
    }

    private void twoArguments(int a, int b) {
        String of = "(" + a + ", " + b + ")";
        int coreAndLine = in(a, 3) && in(b, 255) ? 0 : UNKNOWN;
        SnoopFilter x = busy();
        check("core" + of, x.core(a, b), !in(a, 3) ? UNKNOWN : in(b, 10) ? 0 : BAD_VALUE);
        check("counter" + of, x.counter(a, b), in(a, 3) && in(b, 23) ? 0 : UNKNOWN);
        check("bit" + of, x.bit(a, b), in(a, 3) && in(b, 15) ? 0 : UNKNOWN);
        check("line" + of, x.line(a, b), !in(a, 255) ? UNKNOWN : in(b, 5) ? 0 : BAD_VALUE);
        check("reason" + of, x.reason(a, b), coreAndLine);
        check("drop" + of, x.drop(a, b), coreAndLine);
        unchanged("drop" + of, x, coreAndLine);
        x = busy();
        check("read" + of, x.read(a, b), coreAndLine);
        unchanged("read" + of, x, coreAndLine);
        x = busy();
        int setting = !in(a, 1) ? UNKNOWN : b >= 1 && b <= (a == 0 ? 9 : 24) ? 0 : BAD_VALUE;
        check("set" + of, x.set(a, b), setting);
        unchanged("set" + of, x, setting);
    }

    private void threeArguments(int a, int b, int c) {
        String of = "(" + a + ", " + b + ", " + c + ")";
        boolean known = in(a, 3) && in(b, 255);
        SnoopFilter x = busy();
        check("held" + of, x.held(a, b, c), !in(a, 3) ? UNKNOWN : in(b, 7) && in(c, 2) ? 0 : BAD_VALUE);
        int costs = !known ? UNKNOWN : in(c, 3) ? 0 : BAD_VALUE;
        check("cost of reading" + of, x.cost(a, b, false, c), costs);
        check("cost of writing" + of, x.cost(a, b, true, c), costs);
        int writes = !known ? UNKNOWN : in(c, 9999) ? 0 : BAD_VALUE;
        check("write" + of, x.write(a, b, c), writes);
        unchanged("write" + of, x, writes);
    }
}
