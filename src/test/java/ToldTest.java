/** Promises 14 to 23: what is told of cores, places, filters, lines, snoops and costs. */
public final class ToldTest {
    private static final int UNKNOWN = -1;
    private static final int BAD_VALUE = -2;
    private static final int NONE = -5;
    private static final int LOWEST = Integer.MIN_VALUE;
    private static final int HIGHEST = Integer.MAX_VALUE;

    private final Due due = new Due("ToldTest");

    public static void main(String[] args) {
        ToldTest test = new ToldTest();
        test.tellsOfCores();
        test.coreErrors();
        test.tellsOfPlaces();
        test.heldErrors();
        test.tellsOfCounters();
        test.tellsOfBits();
        test.tellsOfLines();
        test.numbersOfCounters();
        test.lineErrors();
        test.reasons();
        test.reasonErrors();
        test.costOfReading();
        test.costOfWriting();
        test.costOfForgetting();
        test.costAloneIsTold();
        test.costChangesNothing();
        test.costErrors();
        test.vainLines();
        test.vainAfterDropping();
        test.worstCore();
        test.worstOfEach();
        test.accountsAddUp();
        test.countErrors();
        test.due.close();
    }

    /** Core 0 wrote 1 and read 0 and 5 (the limit is 1, so the counter 5 sticks); core 1 read 0 and 17. */
    private static SnoopFilter busy() {
        SnoopFilter x = new SnoopFilter();
        x.set(0, 1);
        x.write(0, 1, 4);
        x.read(0, 0);
        x.read(0, 5);
        x.read(0, 5);
        x.read(1, 0);
        x.read(1, 17);
        return x;
    }

    private void tellsOfCores() {
        SnoopFilter x = busy();
        int[] zero = {3, 1, 5, 1, 1, 1, 2, 1, 0, 1, 0};
        int[] one = {2, 0, 4, 0, 2, 0, 2, 0, 0, 3, 0};
        int[] two = {0, 0, 0, 0, 0, 0, 0, 0, 0, 5, 0};
        for (int what = 0; what <= 10; what++) {
            due.is("core(0, " + what + ")", x.core(0, what), zero[what]);
            due.is("core(1, " + what + ")", x.core(1, what), one[what]);
            due.is("core(2, " + what + ")", x.core(2, what), two[what]);
            due.is("core(3, " + what + ")", x.core(3, what), two[what]);
        }
        x.write(3, 24, 1);
        due.is("came to 1", x.core(1, 7), 1);
        due.is("in vain", x.core(1, 8), 1);
        x.forget(1);
        due.is("forgot", x.core(1, 10), 1);
        due.is("told after forgetting", x.core(1, 8), 1);
    }

    private void coreErrors() {
        SnoopFilter x = new SnoopFilter();
        due.is("core(-1, 0)", x.core(-1, 0), UNKNOWN);
        due.is("core(4, 0)", x.core(4, 0), UNKNOWN);
        due.is("core(4, 11)", x.core(4, 11), UNKNOWN);
        due.is("core(0, -1)", x.core(0, -1), BAD_VALUE);
        due.is("core(3, 11)", x.core(3, 11), BAD_VALUE);
        due.is("core(0, HIGHEST)", x.core(0, HIGHEST), BAD_VALUE);
        due.is("core(0, LOWEST)", x.core(0, LOWEST), BAD_VALUE);
    }

    private void tellsOfPlaces() {
        SnoopFilter x = new SnoopFilter();
        x.write(2, 255, 77);
        due.is("line", x.held(2, 7, 0), 255);
        due.is("value", x.held(2, 7, 1), 77);
        due.is("dirty", x.held(2, 7, 2), 1);
        x.read(2, 0);
        due.is("line 0", x.held(2, 0, 0), 0);
        due.is("value 0", x.held(2, 0, 1), 0);
        due.is("clean", x.held(2, 0, 2), 0);
        due.is("another core", x.held(1, 7, 0), NONE);
        x.drop(2, 255);
        due.is("none: line", x.held(2, 7, 0), NONE);
        due.is("none: value", x.held(2, 7, 1), NONE);
        due.is("none: dirty", x.held(2, 7, 2), NONE);
    }

    private void heldErrors() {
        SnoopFilter x = new SnoopFilter();
        due.is("held(-1, 0, 0)", x.held(-1, 0, 0), UNKNOWN);
        due.is("held(4, 8, 3)", x.held(4, 8, 3), UNKNOWN);
        due.is("held(0, -1, 0)", x.held(0, -1, 0), BAD_VALUE);
        due.is("held(0, 8, 0)", x.held(0, 8, 0), BAD_VALUE);
        due.is("held(0, 0, -1)", x.held(0, 0, -1), BAD_VALUE);
        due.is("held(0, 0, 3)", x.held(0, 0, 3), BAD_VALUE);
        due.is("held(0, 0, 2)", x.held(0, 0, 2), NONE);
        x.read(0, 0);
        due.is("held(0, 0, 3) of a line", x.held(0, 0, 3), BAD_VALUE);
    }

    private void tellsOfCounters() {
        SnoopFilter x = new SnoopFilter();
        x.read(0, 0);
        x.read(0, 5);
        for (int counter = 0; counter < 24; counter++) {
            int want = counter == 5 ? 2 : counter == 0 || counter == 16 ? 1 : 0;
            due.is("counter(0, " + counter + ")", x.counter(0, counter), want);
            due.is("counter(1, " + counter + ")", x.counter(1, counter), 0);
        }
        x.read(3, 23);
        due.is("counter(3, 23)", x.counter(3, 23), 1);
        due.is("counter(3, 22)", x.counter(3, 22), 1);
        due.is("counter(-1, 0)", x.counter(-1, 0), UNKNOWN);
        due.is("counter(4, 0)", x.counter(4, 0), UNKNOWN);
        due.is("counter(0, -1)", x.counter(0, -1), UNKNOWN);
        due.is("counter(0, 24)", x.counter(0, 24), UNKNOWN);
    }

    private void tellsOfBits() {
        SnoopFilter x = new SnoopFilter();
        x.read(0, 15);
        x.read(0, 16);
        x.read(1, 255);
        for (int region = 0; region < 16; region++) {
            due.is("bit(0, " + region + ")", x.bit(0, region), region <= 1 ? 1 : 0);
            due.is("bit(1, " + region + ")", x.bit(1, region), region == 15 ? 1 : 0);
        }
        x.drop(0, 15);
        due.is("bits stay", x.bit(0, 0), 1);
        due.is("bit(-1, 0)", x.bit(-1, 0), UNKNOWN);
        due.is("bit(4, 0)", x.bit(4, 0), UNKNOWN);
        due.is("bit(0, -1)", x.bit(0, -1), UNKNOWN);
        due.is("bit(0, 16)", x.bit(0, 16), UNKNOWN);
    }

    private void tellsOfLines() {
        SnoopFilter x = new SnoopFilter();
        x.write(3, 17, 5);
        due.is("memory", x.line(17, 0), 0);
        due.is("a reader's value", x.line(17, 1), 5);
        due.is("holders", x.line(17, 2), 8);
        due.is("may have", x.line(17, 3), 8);
        x.read(1, 17);
        due.is("memory then", x.line(17, 0), 5);
        due.is("a reader's value then", x.line(17, 1), 5);
        due.is("holders then", x.line(17, 2), 10);
        x.read(0, 0);
        x.read(0, 18);
        due.is("0 may have 24", x.line(24, 3), 1);
        due.is("none holds 24", x.line(24, 2), 0);
        x.drop(1, 17);
        due.is("holders at last", x.line(17, 2), 8);
        x.drop(3, 17);
        due.is("a reader's value from memory", x.line(17, 1), 5);
        due.is("none holds it", x.line(17, 2), 0);
        due.is("none may have it", x.line(17, 3), 0);
        x.read(0, 255);
        x.read(1, 255);
        x.read(2, 255);
        x.read(3, 255);
        due.is("all hold 255", x.line(255, 2), 15);
        due.is("all may have 255", x.line(255, 3), 15);
    }

    private void numbersOfCounters() {
        SnoopFilter x = new SnoopFilter();
        for (int line = 0; line < 200; line++) {
            due.is("line(" + line + ", 4)", x.line(line, 4), line % 24);
            due.is("line(" + line + ", 5)", x.line(line, 5), (7 * line + 5) % 24);
        }
        due.is("line(255, 4)", x.line(255, 4), 15);
        due.is("line(255, 5)", x.line(255, 5), 14);
    }

    private void lineErrors() {
        SnoopFilter x = new SnoopFilter();
        due.is("line(-1, 0)", x.line(-1, 0), UNKNOWN);
        due.is("line(256, 0)", x.line(256, 0), UNKNOWN);
        due.is("line(256, 6)", x.line(256, 6), UNKNOWN);
        due.is("line(0, -1)", x.line(0, -1), BAD_VALUE);
        due.is("line(255, 6)", x.line(255, 6), BAD_VALUE);
        due.is("line(0, HIGHEST)", x.line(0, HIGHEST), BAD_VALUE);
        due.is("line(0, LOWEST)", x.line(0, LOWEST), BAD_VALUE);
    }

    private void reasons() {
        SnoopFilter x = busy();
        due.is("held", x.reason(1, 0), 0);
        due.is("held dirty", x.reason(0, 1), 0);
        due.is("in vain", x.reason(1, 24), 1);
        due.is("by the bit", x.reason(1, 48), 2);
        due.is("by the first counter", x.reason(1, 18), 3);
        // 10 has the counters 10 and 3; 12 has 12 and 17; 7 has 7 and 6; 17 has 17 and 4.
        due.is("by a counter", x.reason(1, 12), 3);
        due.is("by the second counter", x.reason(0, 16), 2);
        due.is("nothing was held", x.reason(2, 0), 2);
        x.drop(1, 17);
        due.is("the bit stays", x.reason(1, 17), 3);
        x.forget(1);
        due.is("forgotten", x.reason(1, 17), 2);
        due.is("no act", x.count(2), 1);
    }

    private void reasonErrors() {
        SnoopFilter x = new SnoopFilter();
        due.is("reason(-1, 0)", x.reason(-1, 0), UNKNOWN);
        due.is("reason(4, 0)", x.reason(4, 0), UNKNOWN);
        due.is("reason(0, -1)", x.reason(0, -1), UNKNOWN);
        due.is("reason(0, 256)", x.reason(0, 256), UNKNOWN);
        due.is("reason(3, 255)", x.reason(3, 255), 2);
    }

    private void cost(SnoopFilter x, int core, int line, boolean writes, int... want) {
        for (int what = 0; what < 4; what++) {
            due.is("cost(" + core + ", " + line + ", " + writes + ", " + what + ")",
                    x.cost(core, line, writes, what), want[what]);
        }
    }

    private void costOfReading() {
        SnoopFilter x = new SnoopFilter();
        cost(x, 0, 0, false, 0, 0, 0, 0);
        x.write(1, 0, 3);
        x.read(1, 17);
        x.write(2, 24, 8);
        cost(x, 0, 0, false, 1, 0, 1, 0);
        cost(x, 1, 0, false, 0, 0, 0, 0);
        cost(x, 0, 24, false, 2, 1, 1, 0);
        cost(x, 2, 0, false, 1, 0, 2, 0);
        cost(x, 1, 24, false, 1, 0, 2, 0);
        cost(x, 3, 33, false, 0, 0, 0, 0);
    }

    private void costOfWriting() {
        SnoopFilter x = new SnoopFilter();
        cost(x, 0, 0, true, 0, 0, 0, 0);
        x.write(1, 0, 3);
        x.read(1, 17);
        x.write(2, 24, 8);
        cost(x, 0, 0, true, 1, 0, 0, 0);
        cost(x, 1, 0, true, 0, 0, 0, 0);
        cost(x, 0, 24, true, 2, 1, 0, 0);
        cost(x, 2, 0, true, 1, 0, 1, 0);
        x.read(3, 17);
        cost(x, 1, 17, true, 1, 0, 0, 0);
        cost(x, 3, 17, false, 0, 0, 0, 0);
    }

    private void costOfForgetting() {
        SnoopFilter x = new SnoopFilter();
        x.write(0, 0, 1);
        x.write(0, 1, 2);
        x.write(0, 2, 3);
        x.read(1, 3);
        x.set(1, 6);
        cost(x, 0, 3, true, 1, 0, 3, 1);
        cost(x, 0, 3, false, 1, 0, 3, 1);
        cost(x, 0, 2, true, 0, 0, 0, 0);
        cost(x, 0, 0, false, 0, 0, 0, 0);
        // 24 takes the place of 0, whose counters it has: 6 counters are enough.
        cost(x, 0, 24, false, 0, 0, 3, 1);
        x.set(1, 7);
        cost(x, 0, 24, false, 0, 0, 1, 0);
        cost(x, 1, 0, false, 1, 0, 1, 0);
        x.set(1, 1);
        cost(x, 3, 200, false, 0, 0, 0, 1);
        cost(x, 3, 200, true, 0, 0, 0, 1);
    }

    /** Snoops, lines written back and forgetting that were before are no part of the cost. */
    private void costAloneIsTold() {
        SnoopFilter x = new SnoopFilter();
        x.write(1, 0, 1);
        x.read(1, 17);
        x.read(0, 24);
        x.read(2, 0);
        x.forget(2);
        due.is("came before", x.count(2), 2);
        due.is("in vain before", x.count(3), 1);
        due.is("written back before", x.count(5), 1);
        due.is("forgot before", x.count(6), 1);
        cost(x, 3, 100, false, 0, 0, 0, 0);
        cost(x, 3, 100, true, 0, 0, 0, 0);
        cost(x, 3, 24, false, 2, 1, 0, 0);
    }

    private void costChangesNothing() {
        SnoopFilter x = busy();
        int[] before = new int[14];
        for (int what = 0; what < 14; what++) {
            before[what] = x.count(what);
        }
        for (int line = 0; line < 40; line++) {
            x.cost(2, line, true, 0);
            x.cost(3, line, false, 2);
        }
        for (int what = 0; what < 14; what++) {
            due.is("count(" + what + ") after cost()", x.count(what), before[what]);
        }
        due.is("value", x.line(1, 1), 4);
        due.is("memory", x.line(1, 0), 0);
    }

    private void costErrors() {
        SnoopFilter x = new SnoopFilter();
        due.is("cost(-1, 0, true, 0)", x.cost(-1, 0, true, 0), UNKNOWN);
        due.is("cost(4, 0, true, 9)", x.cost(4, 0, true, 9), UNKNOWN);
        due.is("cost(0, -1, false, 0)", x.cost(0, -1, false, 0), UNKNOWN);
        due.is("cost(0, 256, false, -1)", x.cost(0, 256, false, -1), UNKNOWN);
        due.is("cost(0, 0, false, -1)", x.cost(0, 0, false, -1), BAD_VALUE);
        due.is("cost(0, 0, true, 4)", x.cost(0, 0, true, 4), BAD_VALUE);
    }

    private void vainLines() {
        SnoopFilter x = new SnoopFilter();
        due.is("vain(0) at first", x.vain(0), 0);
        x.read(1, 0);
        due.is("0 alone", x.vain(1), 0);
        x.read(1, 17);
        // 24 has the counters of 0, in the region of 17; no other line has two of 0, 5, 17 and 4.
        due.is("0 and 17", x.vain(1), 1);
        x.read(1, 24);
        // 24 took the place of 0, and the bit of region 0 stays: 0 is asked in vain.
        due.is("24 and 17", x.vain(1), 1);
        due.is("vain(0)", x.vain(0), 0);
        due.is("vain(-1)", x.vain(-1), UNKNOWN);
        due.is("vain(4)", x.vain(4), UNKNOWN);
    }

    private void vainAfterDropping() {
        SnoopFilter x = new SnoopFilter();
        x.set(0, 1);
        x.read(3, 0);
        x.read(3, 5);
        x.read(3, 16);
        // Counters: 0 has 0 and 5; 5 has 5 and 16; 16 has 16 and 21. So 5 and 16 stick.
        x.drop(3, 5);
        due.is("5 is asked in vain", x.reason(3, 5), 1);
        int found = 0;
        for (int line = 0; line < 256; line++) {
            if (x.reason(3, line) == 1) {
                found++;
            }
        }
        due.is("vain(3)", x.vain(3), found);
        due.holds("there are some", found > 0);
    }

    private void worstCore() {
        SnoopFilter x = new SnoopFilter();
        due.is("at first", x.worst(), NONE);
        x.read(2, 0);
        x.read(2, 17);
        x.read(3, 0);
        x.read(3, 17);
        due.is("not in vain", x.worst(), NONE);
        x.read(0, 24);
        due.is("2 and 3", x.worst(), 2);
        x.drop(2, 0);
        x.write(1, 24, 1);
        due.is("3 the most", x.worst(), 3);
        x.undo();
        due.is("2 and 3 again", x.worst(), 2);
    }

    private void worstOfEach() {
        for (int worst = 0; worst < 4; worst++) {
            SnoopFilter x = new SnoopFilter();
            x.read(worst, 0);
            x.read(worst, 17);
            x.read((worst + 1) % 4, 24);
            due.is("worst of " + worst, x.worst(), worst);
        }
    }

    private void accountsAddUp() {
        SnoopFilter x = busy();
        x.write(3, 24, 1);
        x.write(2, 0, 1);
        x.forget(2);
        Due.retype(x, "r0.1");
        // Core 0 keeps 1 and 5, core 1 keeps 17, core 3 keeps 24.
        int[] sums = {4, 2, 4, 1, 17, 1, 1, 1, 4, 3, 1, 20, 4, 4};
        for (int what = 0; what < 14; what++) {
            due.is("count(" + what + ")", x.count(what), sums[what]);
        }
        int[] told = {0, 1, 7, 8, 9, -1, 10, 5, 6};
        for (int what = 0; what < told.length; what++) {
            if (told[what] >= 0) {
                int sum = 0;
                for (int core = 0; core < 4; core++) {
                    sum += x.core(core, told[what]);
                }
                due.is("count(" + what + ") is the sum", x.count(what), sum);
            }
        }
    }

    private void countErrors() {
        SnoopFilter x = new SnoopFilter();
        due.is("count(-1)", x.count(-1), BAD_VALUE);
        due.is("count(14)", x.count(14), BAD_VALUE);
        due.is("count(HIGHEST)", x.count(HIGHEST), BAD_VALUE);
        due.is("count(LOWEST)", x.count(LOWEST), BAD_VALUE);
    }
}
