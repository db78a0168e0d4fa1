/** FILTERS. */
final class FiltersSentences extends Sentences {
    private static final String SECTION = "FILTERS";
    private static final String BEGINS = "When a core begins to hold a line, its region's bit is 1, and each of its counters"
            + " that is not stuck is 1 more; but one that is as great as the limit tells then (the setting 0: 1 to 9; 3 at first),"
            + " or greater, stays as it is, and is stuck.";
    private static final String STAYS = "A stuck counter stays as it is until the core forgets.";
    private static final String ENDS = "When the core holds the line no more, each of its counters that is not stuck is 1 less;"
            + " bits stay.";
    private static final String MAY_HAVE = "A core may have a line, by its filter, if the bit of its region is 1, and all of its"
            + " counters are above 0.";
    private static final String IS_FULL = "Behind each line that a core begins to hold it is asked whether its filter is full:"
            + " if as many counters as the setting 1 tells (1 to 24; 20 at first), or more, are above 0.";
    private static final String FORGETS = "Then it forgets: all other lines that the core holds are dropped (dirty ones are"
            + " written back first), all of its counters and bits are 0, none is stuck, and it begins to hold the line anew, as it"
            + " was (without asking again whether the filter is full).";

    /**
     * Each line shares a counter with the next one, and has another place. With a limit of 1, reading along a
     * ring makes the counters stick one by one, and each ring has six counters of its own.
     */
    private static final int[][] RINGS = {
        {0, 5, 16, 21, 8, 13, 0}, {1, 12, 17, 4, 9, 20, 1}, {2, 19, 18, 11, 10, 3, 2}, {6, 23, 22, 15, 14, 7, 6}
    };

    /** How many counters of a ring are above 0 behind each line of it. */
    private static final int[] ABOVE = {2, 3, 3, 4, 5, 6, 6};

    FiltersSentences(Due due, Document document) {
        super(due, document);
    }

    @Override
    void run() {
        emptyFilters();
        twoCounters();
        limitAtFirst();
        limitsInRange();
        justBelowAndAtTheLimit();
        limitAsItIsThen();
        oneSticksTheOtherCounts();
        stuckUntilOnPurpose();
        stuckUntilFull();
        lessByDropping();
        lessByOthers();
        lessBesideAStuckOne();
        mayHaveByTheBit();
        mayHaveByCounters();
        fullFromRange();
        fullAtFirst();
        fullFromEachNumber();
        fullFromTheLeast();
        moreThanFull();
        askedBehindABeginningAlone();
        forgetsOthers();
        forgetsFilter();
        holdsAnewAsItWas();
        notAskedAgain();
    }

    private void counters(String when, SnoopFilter x, int core, int... numbersAboveZero) {
        int[] want = new int[24];
        for (int number : numbersAboveZero) {
            want[number]++;
        }
        for (int counter = 0; counter < 24; counter++) {
            is("counter(" + core + ", " + counter + ") " + when, x.counter(core, counter), want[counter]);
        }
    }

    private void emptyFilters() {
        about(SECTION, "Each core has a filter: 24 counters (0 at first) and a bit for each of the 16 regions (0 at first).");
        SnoopFilter x = new SnoopFilter();
        for (int core = 0; core < 4; core++) {
            counters("at first", x, core);
            for (int region = 0; region < 16; region++) {
                is("bit(" + core + ", " + region + ") at first", x.bit(core, region), 0);
            }
        }
        range("counter(0, _)", (y, counter) -> y.counter(0, counter), 0, 23, UNKNOWN);
        range("bit(0, _)", (y, region) -> y.bit(0, region), 0, 15, UNKNOWN);
        x.read(2, 0);
        counters("of another core", x, 1);
        counters("of the core", x, 2, 0, 5);
        is("bit of another core", x.bit(1, 0), 0);
        is("bit of the core", x.bit(2, 0), 1);
    }

    private void twoCounters() {
        about(SECTION, "A line has two counters: that with the number line modulo 24, and that with the number"
                + " (7 * line + 5) modulo 24 (these are never the same).");
        for (int line = 0; line <= 255; line++) {
            SnoopFilter x = new SnoopFilter();
            int first = x.line(line, 4);
            int second = x.line(line, 5);
            holds("line(" + line + ", 4) is " + first, in(first, 0, 23) && (line - first) % 24 == 0);
            holds("line(" + line + ", 5) is " + second, in(second, 0, 23) && (7 * line + 5 - second) % 24 == 0);
            holds("they are not the same", first != second);
            x.read(1, line);
            counters("of line " + line, x, 1, first, second);
        }
        // The last number before a wrap-around, and the first behind it, worked out by hand.
        SnoopFilter x = new SnoopFilter();
        is("line(23, 4)", x.line(23, 4), 23);
        is("line(24, 4)", x.line(24, 4), 0);
        is("line(2, 5)", x.line(2, 5), 19);
        is("line(3, 5)", x.line(3, 5), 2);
        is("line(255, 4)", x.line(255, 4), 15);
        is("line(255, 5)", x.line(255, 5), 14);
    }

    private void limitAtFirst() {
        about(SECTION, BEGINS);
        SnoopFilter x = new SnoopFilter();
        is("the limit at first", x.count(10), 3);
        is("set(0, 3)", x.set(0, 3), NONE);
        x.read(0, 0);
        x.read(0, 5);
        counters("below 3", x, 0, 0, 5, 5, 16);
        is("stuck below 3", x.core(0, 3), 0);
        is("bit(0, 0)", x.bit(0, 0), 1);
        is("other bits", x.core(0, 4), 1);
    }

    private void limitsInRange() {
        about(SECTION, BEGINS);
        range("set(0, _)", (x, limit) -> x.set(0, limit), 1, 9, BAD_VALUE);
        for (int limit = 1; limit <= 9; limit++) {
            SnoopFilter x = new SnoopFilter();
            x.set(0, limit);
            is("count(10)", x.count(10), limit);
            x.read(0, 0);
            counters("of one line by the limit " + limit, x, 0, 0, 5);
            is("0 is below the limit " + limit, x.core(0, 3), 0);
            x.read(0, 5);
            is("counter 5 by the limit " + limit, x.counter(0, 5), limit == 1 ? 1 : 2);
            is("stuck by the limit " + limit, x.core(0, 3), limit == 1 ? 1 : 0);
        }
    }

    /** The lines of two neighbours in a ring share the counter that the second one has for its first. */
    private void justBelowAndAtTheLimit() {
        about(SECTION, BEGINS);
        for (int[] ring : RINGS) {
            for (int i = 1; i < ring.length; i++) {
                int shared = ring[i];
                SnoopFilter below = new SnoopFilter();
                below.set(0, 2);
                below.read(0, ring[i - 1]);
                below.read(0, shared);
                is("counter " + shared + " is 1, below 2: so 1 more", below.counter(0, shared), 2);
                is("and none is stuck", below.core(0, 3), 0);
                below.drop(0, ring[i - 1]);
                is("it counts down", below.counter(0, shared), 1);
                SnoopFilter at = new SnoopFilter();
                at.set(0, 1);
                at.read(0, ring[i - 1]);
                at.read(0, shared);
                is("counter " + shared + " is 1, as great as 1: so it stays", at.counter(0, shared), 1);
                is("and is stuck", at.core(0, 3), 1);
                at.drop(0, ring[i - 1]);
                at.drop(0, shared);
                counters("that is stuck alone", at, 0, shared);
            }
        }
    }

    /** Two lines at most have a counter at once: so a counter of 2 can meet a lower limit, but no third line. */
    private void limitAsItIsThen() {
        about(SECTION, BEGINS);
        SnoopFilter lowered = new SnoopFilter();
        lowered.read(0, 0);
        lowered.set(0, 1);
        is("lowering the limit makes none stuck", lowered.core(0, 3), 0);
        lowered.read(0, 5);
        is("the next line does", lowered.core(0, 3), 1);
        is("counter 5", lowered.counter(0, 5), 1);

        SnoopFilter raised = new SnoopFilter();
        raised.set(0, 1);
        raised.read(0, 0);
        raised.set(0, 2);
        raised.read(0, 5);
        is("stuck by the raised limit", raised.core(0, 3), 0);
        is("counter 5 by the raised limit", raised.counter(0, 5), 2);
        raised.set(0, 1);
        is("a counter above the limit stays", raised.counter(0, 5), 2);
        raised.read(0, 0);
        is("a hit begins nothing", raised.core(0, 3), 0);
        // 29 has the place and the counters of 5: counter 5 is 1 less first, and then as great as the limit.
        raised.read(0, 29);
        is("counter 5 at last", raised.counter(0, 5), 1);
        is("it is stuck", raised.core(0, 3), 1);
    }

    /** No line finds both of its counters at the limit: the lines that have them beside it share a place. */
    private void oneSticksTheOtherCounts() {
        about(SECTION, BEGINS);
        SnoopFilter x = new SnoopFilter();
        x.set(0, 1);
        x.read(0, 0);
        is("no bit but that of region 0", x.core(0, 4), 1);
        x.read(0, 5);
        counters("behind 5: 5 sticks, 16 counts", x, 0, 0, 5, 16);
        is("stuck behind 5", x.core(0, 3), 1);
        is("a bit that is 1 stays", x.core(0, 4), 1);
        x.read(0, 16);
        counters("behind 16 in place of 0: 16 sticks, 21 counts", x, 0, 5, 16, 21);
        is("stuck behind 16", x.core(0, 3), 2);
        is("bit(0, 1)", x.bit(0, 1), 1);
        is("bits", x.core(0, 4), 2);
    }

    private static SnoopFilter withStuckCounter() {
        SnoopFilter x = new SnoopFilter();
        x.set(0, 1);
        x.read(0, 0);
        x.read(0, 5);
        return x;
    }

    private void stuckUntilOnPurpose() {
        about(SECTION, STAYS);
        SnoopFilter x = withStuckCounter();
        x.drop(0, 0);
        x.drop(0, 5);
        is("behind two drops", x.counter(0, 5), 1);
        x.set(0, 9);
        x.read(0, 0);
        is("behind a line more", x.counter(0, 5), 1);
        x.read(0, 24);
        is("behind a line in its place", x.counter(0, 5), 1);
        x.write(1, 24, 1);
        is("behind a line that is taken", x.counter(0, 5), 1);
        is("stuck", x.core(0, 3), 1);
        is("the core holds none", x.core(0, 0), 0);
        x.forget(0);
        is("behind forget(0)", x.counter(0, 5), 0);
        is("stuck behind forget(0)", x.core(0, 3), 0);
        x.read(0, 0);
        x.read(0, 5);
        is("it counts again", x.counter(0, 5), 2);
        x.drop(0, 0);
        is("and back", x.counter(0, 5), 1);
    }

    private void stuckUntilFull() {
        about(SECTION, STAYS);
        SnoopFilter x = withStuckCounter();
        x.set(1, 5);
        x.read(1, 0);
        x.forget(1);
        is("another core that forgets changes nothing here", x.core(0, 3), 1);
        // 1 has the counters 1 and 12; with 0, 5 and 16 these are five.
        x.read(0, 1);
        is("forgot", x.core(0, 10), 1);
        is("stuck", x.core(0, 3), 0);
        counters("anew", x, 0, 1, 12);
    }

    private void lessByDropping() {
        about(SECTION, ENDS);
        SnoopFilter x = new SnoopFilter();
        x.read(0, 0);
        x.read(0, 5);
        x.drop(0, 5);
        counters("behind drop(0, 5)", x, 0, 0, 5);
        x.drop(0, 0);
        counters("behind drop(0, 0)", x, 0);
        is("the bit stays", x.bit(0, 0), 1);
        x.read(0, 40);
        x.write(0, 48, 1);
        counters("behind a line in its place", x, 0, 0, 5);
        x.read(0, 41);
        counters("of 48 and 41", x, 0, 0, 5, 17, 4);
        x.read(0, 49);
        counters("behind a line read in its place", x, 0, 0, 5, 1, 12);
        for (int region = 0; region < 16; region++) {
            is("bit(0, " + region + ")", x.bit(0, region), region == 0 || region == 2 || region == 3 ? 1 : 0);
        }
    }

    private void lessByOthers() {
        about(SECTION, ENDS);
        SnoopFilter x = new SnoopFilter();
        x.read(0, 100);
        x.read(1, 100);
        x.read(2, 100);
        counters("while a reader comes", x, 0, 4, 9);
        x.write(1, 100, 3);
        counters("behind another's write", x, 0);
        counters("of the writer", x, 1, 4, 9);
        counters("of the third", x, 2);
        is("the bit stays", x.bit(0, 6), 1);
        x.read(0, 100);
        counters("of the writer that was read", x, 1, 4, 9);
    }

    private void lessBesideAStuckOne() {
        about(SECTION, ENDS);
        SnoopFilter x = withStuckCounter();
        counters("of 0 and 5", x, 0, 0, 5, 16);
        x.drop(0, 5);
        counters("of 0, and the stuck one", x, 0, 0, 5);
        x.drop(0, 0);
        counters("that is stuck", x, 0, 5);
        x.read(0, 29);
        counters("of 29", x, 0, 5, 16);
        x.read(0, 37);
        counters("of 37 in its place", x, 0, 5, 13, 0);
    }

    private void mayHaveByTheBit() {
        about(SECTION, MAY_HAVE);
        SnoopFilter x = new SnoopFilter();
        x.read(1, 0);
        for (int line = 0; line <= 255; line += 24) {
            is("line(" + line + ", 3) by the bit of region 0 alone", x.line(line, 3), line <= 15 ? 2 : 0);
        }
        x.read(1, 17);
        is("line(24, 3) by the bit of region 1", x.line(24, 3), 2);
        is("line(48, 3) without its bit", x.line(48, 3), 0);
        x.drop(1, 17);
        is("line(24, 3) by a bit that stays", x.line(24, 3), 2);
        is("no other core may", x.line(0, 3), 2);
        x.forget(1);
        is("line(0, 3) of what was forgotten", x.line(0, 3), 0);
    }

    private void mayHaveByCounters() {
        about(SECTION, MAY_HAVE);
        SnoopFilter x = new SnoopFilter();
        x.read(1, 0);
        // 13 has the counters 13 and 0; 5 has 5 and 16; all of them are in region 0.
        is("line(13, 3) by its second counter alone", x.line(13, 3), 0);
        is("line(5, 3) by its first counter alone", x.line(5, 3), 0);
        is("line(7, 3) by none", x.line(7, 3), 0);
        is("line(0, 3) by both of 1", x.line(0, 3), 2);
        x.drop(1, 0);
        is("line(0, 3) by both of 0", x.line(0, 3), 0);
        SnoopFilter stuck = withStuckCounter();
        stuck.drop(0, 0);
        is("line(5, 3) held", stuck.line(5, 3), 1);
        is("line(0, 3) by its stuck counter alone", stuck.line(0, 3), 0);
        SnoopFilter rounds = new SnoopFilter();
        readRing(rounds, 0, ABOVE.length, true);
        rounds.drop(0, 0);
        rounds.drop(0, 13);
        is("lines that it holds", rounds.core(0, 0), 0);
        is("line(0, 3) by stuck counters", rounds.line(0, 3), 1);
        is("line(13, 3) by stuck counters", rounds.line(13, 3), 1);
        is("line(1, 3) by none", rounds.line(1, 3), 0);
    }

    /** Reads the first lines of a ring, with a limit of 1. */
    private static void readRing(SnoopFilter x, int ring, int lines, boolean sets) {
        if (sets) {
            x.set(0, 1);
        }
        for (int i = 0; i < lines; i++) {
            x.read(0, RINGS[ring][i]);
        }
    }

    private void fullFromRange() {
        about(SECTION, IS_FULL);
        range("set(1, _)", (x, number) -> x.set(1, number), 1, 24, BAD_VALUE);
        SnoopFilter x = new SnoopFilter();
        is("count(11) at first", x.count(11), 20);
        is("set(1, 20)", x.set(1, 20), NONE);
        for (int number = 1; number <= 24; number++) {
            SnoopFilter each = new SnoopFilter();
            each.set(1, number);
            is("count(11)", each.count(11), number);
        }
    }

    /** 8 lines have 16 counters at most: it takes stuck ones for 20. */
    private void fullAtFirst() {
        about(SECTION, IS_FULL);
        SnoopFilter eight = new SnoopFilter();
        for (int line : new int[] {0, 16, 5, 21, 1, 17, 12, 4, 2, 18, 3, 11, 6, 22, 7, 15}) {
            eight.read(0, line);
        }
        is("8 lines do not fill it", eight.core(0, 10), 0);
        SnoopFilter x = new SnoopFilter();
        fillUpTo(x, 20);
        is("19 are above 0", x.core(0, 2), 19);
        is("19 do not fill it", x.core(0, 10), 0);
        readLastUpTo(x, 20);
        is("20 fill it", x.core(0, 10), 1);
        is("above 0 then", x.core(0, 2), 2);
    }

    /** Which rings are read, and how far, so that the last line brings the counters above 0 from n - 1 to n. */
    private static int[] plan(int n) {
        int whole = (n - 1) / 6;
        int rest = n - 6 * whole;
        int[] plan = new int[4];
        if (rest <= 2) {
            whole--;
            plan[whole + 1] = 2;
            plan[whole] = rest == 1 ? 4 : 5;
        } else {
            plan[whole] = rest == 3 ? 2 : rest;
        }
        for (int ring = 0; ring < whole; ring++) {
            plan[ring] = ABOVE.length;
        }
        return plan;
    }

    private static int lastRing(int[] plan) {
        int last = 0;
        for (int ring = 0; ring < plan.length; ring++) {
            last = plan[ring] > 0 ? ring : last;
        }
        return last;
    }

    /** Brings the counters above 0 to one less than n, which is 3 or more. */
    private static void fillUpTo(SnoopFilter x, int n) {
        int[] plan = plan(n);
        int last = lastRing(plan);
        x.set(0, 1);
        for (int ring = 0; ring <= last; ring++) {
            readRing(x, ring, plan[ring] - (ring == last ? 1 : 0), false);
        }
    }

    private static void readLastUpTo(SnoopFilter x, int n) {
        int[] plan = plan(n);
        int last = lastRing(plan);
        x.read(0, RINGS[last][plan[last] - 1]);
    }

    private void fullFromEachNumber() {
        about(SECTION, IS_FULL);
        for (int number = 3; number <= 24; number++) {
            SnoopFilter at = new SnoopFilter();
            at.set(1, number);
            fillUpTo(at, number);
            is("counters just below " + number, at.core(0, 2), number - 1);
            is("just below " + number + " it is not full", at.core(0, 10), 0);
            readLastUpTo(at, number);
            is("at " + number + " it is full", at.core(0, 10), 1);
            is("counters then", at.core(0, 2), 2);
            if (number < 24) {
                SnoopFilter below = new SnoopFilter();
                below.set(1, number + 1);
                fillUpTo(below, number);
                readLastUpTo(below, number);
                is(number + " do not fill it from " + (number + 1), below.core(0, 10), 0);
                is("counters that stay", below.core(0, 2), number);
            }
        }
    }

    /** A line has two counters: so from 1 and from 2 each line fills the filter, and from 3 a second one does. */
    private void fullFromTheLeast() {
        about(SECTION, IS_FULL);
        for (int number = 1; number <= 3; number++) {
            SnoopFilter x = new SnoopFilter();
            x.set(1, number);
            x.write(2, 100, 1);
            is("forgot behind a line from " + number, x.core(2, 10), number <= 2 ? 1 : 0);
            x.write(2, 101, 1);
            is("forgot behind two lines from " + number, x.core(2, 10), number <= 2 ? 2 : 1);
            is("lines", x.core(2, 0), 1);
        }
    }

    private void moreThanFull() {
        about(SECTION, IS_FULL);
        SnoopFilter x = new SnoopFilter();
        x.set(1, 3);
        x.read(0, 0);
        x.read(0, 1);
        is("4 are more than 3", x.core(0, 10), 1);
        SnoopFilter lowered = new SnoopFilter();
        for (int line = 0; line < 4; line++) {
            lowered.read(0, line);
        }
        int above = lowered.core(0, 2);
        lowered.set(1, 2);
        is("filters stay as they are", lowered.core(0, 2), above);
        lowered.read(0, 4);
        is("more than 2 behind the next line", lowered.core(0, 10), 1);
    }

    private void askedBehindABeginningAlone() {
        about(SECTION, IS_FULL);
        SnoopFilter x = new SnoopFilter();
        x.read(0, 0);
        x.write(0, 1, 5);
        x.read(0, 2);
        x.set(1, 1);
        is("set() does not ask", x.count(6), 0);
        x.read(0, 0);
        x.read(0, 1);
        is("a hit does not ask", x.count(6), 0);
        x.write(0, 1, 6);
        x.write(0, 2, 7);
        is("writing a line that is held does not ask", x.count(6), 0);
        x.drop(0, 0);
        is("dropping does not ask", x.count(6), 0);
        x.read(1, 1);
        is("the snooped core is not asked", x.core(0, 10), 0);
        is("the reader is", x.core(1, 10), 1);
        x.write(1, 2, 8);
        is("the core that loses a line is not asked", x.core(0, 10), 0);
        is("the writer is", x.core(1, 10), 2);
        is("the lines of core 0", x.core(0, 0), 1);
        x.read(0, 9);
        is("it is asked behind a line in place of another", x.core(0, 10), 1);
    }

    private void forgetsOthers() {
        about(SECTION, FORGETS);
        SnoopFilter x = new SnoopFilter();
        x.write(0, 0, 7);
        x.read(0, 1);
        x.write(0, 34, 9);
        x.read(1, 0);
        x.write(0, 0, 8);
        int back = x.count(5);
        x.set(1, 7);
        x.write(0, 3, 6);
        is("forgot", x.core(0, 10), 1);
        is("the others did not", x.count(6), 1);
        is("lines", x.core(0, 0), 1);
        is("dirty ones", x.core(0, 1), 1);
        is("place 0", x.held(0, 0, 0), NONE);
        is("place 1", x.held(0, 1, 0), NONE);
        is("place 2", x.held(0, 2, 0), NONE);
        is("place 3", x.held(0, 3, 0), 3);
        is("memory 0", x.line(0, 0), 8);
        is("memory 1", x.line(1, 0), 0);
        is("memory 34", x.line(34, 0), 9);
        is("memory 3", x.line(3, 0), 0);
        is("dirty ones are written back, clean ones not", x.count(5) - back, 2);
    }

    private void forgetsFilter() {
        about(SECTION, FORGETS);
        SnoopFilter x = withStuckCounter();
        // 201 has the counters 9 and 20, and 50 has 2 and 19.
        x.read(0, 201);
        x.set(1, 7);
        is("above 0", x.core(0, 2), 5);
        is("bits", x.core(0, 4), 2);
        x.read(0, 50);
        is("forgot", x.core(0, 10), 1);
        counters("of 50 alone", x, 0, 2, 19);
        is("stuck", x.core(0, 3), 0);
        is("bits then", x.core(0, 4), 1);
        is("bit 3", x.bit(0, 3), 1);
        x.drop(0, 50);
        counters("of none", x, 0);
        SnoopFilter same = withStuckCounter();
        same.set(1, 3);
        // 29 takes the place of 5 and has its counters; counter 5, that was stuck, counts anew.
        same.read(0, 29);
        is("a counter of the line itself is not stuck", same.core(0, 3), 0);
        counters("of 29 alone", same, 0, 5, 16);
    }

    private void holdsAnewAsItWas() {
        about(SECTION, FORGETS);
        SnoopFilter x = new SnoopFilter();
        x.set(1, 1);
        x.write(0, 77, 9999);
        is("dirty stays dirty", x.held(0, 5, 2), 1);
        is("its value", x.held(0, 5, 1), 9999);
        is("memory", x.line(77, 0), 0);
        is("it is not written back", x.count(5), 0);
        x.read(1, 77);
        is("clean stays clean", x.held(1, 5, 2), 0);
        is("its value there", x.held(1, 5, 1), 9999);
        is("its counters", x.counter(1, 5) + x.counter(1, 16), 2);
        is("its bit", x.bit(1, 4), 1);
        is("it may be snooped", x.line(77, 3), 3);
    }

    private void notAskedAgain() {
        about(SECTION, FORGETS);
        for (int number = 1; number <= 2; number++) {
            SnoopFilter x = new SnoopFilter();
            x.set(1, number);
            for (int line = 0; line < 8; line++) {
                x.read(0, line);
                is("forgot by line " + line, x.core(0, 10), line + 1);
                is("it holds the line", x.held(0, line, 0), line);
                is("it holds no other", x.core(0, 0), 1);
                is("counters above 0", x.core(0, 2), 2);
            }
        }
    }
}
