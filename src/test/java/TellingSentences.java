import java.util.function.Consumer;

/** The promises 14 to 23. */
final class TellingSentences extends Sentences {
    private static final String CORE = "`core`: 0 to 3";
    private static final String LINE = "`line`: 0 to 255";
    private static final String OF_CORE = "`what`: 0 for the lines that it holds (how many), 1 for dirty ones, 2 for counters above"
            + " 0, 3 for stuck ones, 4 for bits that are 1, 5 for its hits so far, 6 for its misses so far (both by reading alone), 7"
            + " for snoops that came to it so far, 8 for those in vain, 9 for those kept off from it so far, 10 for how often it"
            + " forgot so far (on purpose, or as it was full)";
    private static final String OF_LINE = "`what`: 0 for its value in the memory, 1 for the value that a core that reads it would"
            + " get, 2 for the cores that hold it, as a set, 3 for those that may have it, by their filters, as a set, 4 and 5 for the"
            + " numbers of its counters";
    private static final String OF_COST = "`what`: 0 for snoops that come to other cores, 1 for those in vain, 2 for lines that are"
            + " written back, 3 for whether the core forgets (1, otherwise 0)";
    private static final String OF_ALL = "`what`: 0 for lines held by all cores, each as often as it is held, 1 for dirty ones, 2 for"
            + " snoops that came so far, 3 for those in vain, 4 for those kept off, 5 for lines written back so far, 6 for how often"
            + " cores forgot so far, 7 for hits, 8 for misses, 9 for writes so far, 10 and 11 for the settings, 12 for the states in"
            + " the history, 13 for the length of the text";
    private static final String REASONS = "Returns 0 it holds the line, 1 it is asked in vain, 2 it is kept off by the bit, 3 by a"
            + " counter (the bit being 1); UNKNOWN (core or line).";

    /** With a limit of 1, reading these one after the other makes all counters but two stick, and 23 stand above 0. */
    private static final int[] STICKING = {
        0, 5, 16, 21, 8, 13, 0, 1, 12, 17, 4, 9, 20, 1, 2, 19, 18, 11, 10, 3, 2, 6, 23, 22, 15, 14
    };

    TellingSentences(Due due, Document document) {
        super(due, document);
    }

    @Override
    void run() {
        coreArguments();
        coreTellsOfTheCache();
        coreTellsOfTheFilter();
        coreTellsOfTallies();
        coreAnswers();
        heldArguments();
        heldTells();
        heldAnswers();
        counterTells();
        bitTells();
        lineArguments();
        lineTellsValues();
        lineTellsSets();
        lineTellsCounters();
        lineAnswers();
        reasonArguments();
        reasonTells();
        costArguments();
        costOfSnoops();
        costOfWritingBack();
        costOfForgetting();
        costTellsWhatComes();
        costAnswers();
        vainTells();
        vainOfMany();
        worstFinds();
        worstAnswers();
        countTellsOfLines();
        countTellsOfSnoops();
        countTellsOfTheRest();
        countAnswers();
    }

    private static SnoopFilter sticking() {
        SnoopFilter x = new SnoopFilter();
        x.set(0, 1);
        x.set(1, 24);
        for (int line : STICKING) {
            x.read(0, line);
        }
        return x;
    }

    private void coreArguments() {
        about("Promise 14", CORE);
        range("core(_, 9)", (x, core) -> x.core(core, 9), 0, 3, UNKNOWN);
        about("Promise 14", OF_CORE);
        range("core(0, _)", (x, what) -> x.core(0, what), 0, 10, BAD_VALUE);
        range("core(3, _)", (x, what) -> x.core(3, what), 0, 10, BAD_VALUE);
    }

    private void coreTellsOfTheCache() {
        about("Promise 14", OF_CORE);
        SnoopFilter x = new SnoopFilter();
        for (int line = 0; line < 8; line++) {
            is("lines of " + line, x.core(3, 0), line);
            is("dirty ones of none", x.core(3, 1), 0);
            x.read(3, line);
        }
        for (int line = 0; line < 8; line++) {
            is("lines", x.core(3, 0), 8);
            is("dirty ones of " + line, x.core(3, 1), line);
            x.write(3, line, 1);
        }
        is("dirty ones of 8", x.core(3, 1), 8);
        x.read(0, 0);
        is("dirty ones as one is saved", x.core(3, 1), 7);
        is("lines as one is saved", x.core(3, 0), 8);
        x.write(0, 1, 2);
        is("lines as one is taken", x.core(3, 0), 7);
        is("dirty ones as one is taken", x.core(3, 1), 6);
        x.drop(3, 2);
        is("dirty ones as one is dropped", x.core(3, 1), 5);
        x.forget(3);
        is("lines as it forgot", x.core(3, 0), 0);
        is("dirty ones as it forgot", x.core(3, 1), 0);
    }

    private void coreTellsOfTheFilter() {
        about("Promise 14", OF_CORE);
        SnoopFilter x = sticking();
        is("counters above 0", x.core(0, 2), 23);
        is("stuck ones", x.core(0, 3), 22);
        is("bits", x.core(0, 4), 2);
        is("forgot", x.core(0, 10), 0);
        x.read(0, 7);
        is("counters above 0 of a filter with all 24", x.core(0, 2), 2);
        is("stuck ones then", x.core(0, 3), 0);
        is("forgot then", x.core(0, 10), 1);
        SnoopFilter bits = new SnoopFilter();
        for (int region = 0; region < 16; region++) {
            is("bits of " + region, bits.core(2, 4), region);
            bits.read(2, 16 * region + 15);
        }
        is("bits of all 16", bits.core(2, 4), 16);
        is("counters of one line", bits.core(2, 2), 2);
        bits.drop(2, 255);
        is("counters of none", bits.core(2, 2), 0);
        is("bits of none", bits.core(2, 4), 16);
    }

    private void coreTellsOfTallies() {
        about("Promise 14", OF_CORE);
        SnoopFilter x = object(CALM);
        x.read(1, 0);
        x.read(1, 0);
        x.write(1, 0, 1);
        is("hits by reading alone", x.core(1, 5), 2);
        is("misses by reading alone", x.core(1, 6), 1);
        x.read(0, 0);
        x.read(0, 24);
        x.write(0, 24, 2);
        x.read(2, 200);
        is("snoops that came", x.core(1, 7), 3);
        is("those in vain", x.core(1, 8), 2);
        is("those kept off", x.core(1, 9), 1);
        is("misses of 0", x.core(0, 6), 2);
        x.forget(1);
        is("forgot on purpose", x.core(1, 10), 1);
        x.set(1, 1);
        x.read(1, 3);
        is("forgot as it was full", x.core(1, 10), 2);
        is("hits stay as it forgets", x.core(1, 5), 2);
        is("others did not forget", x.count(6), 2);
    }

    private void coreAnswers() {
        about("Promise 14", "Returns the number; UNKNOWN; BAD_VALUE.");
        is("core(3, 10)", new SnoopFilter().core(3, 10), 0);
        is("core(4, 0)", new SnoopFilter().core(4, 0), UNKNOWN);
        is("core(4, 11)", new SnoopFilter().core(4, 11), UNKNOWN);
        is("core(3, 11)", new SnoopFilter().core(3, 11), BAD_VALUE);
    }

    private void heldArguments() {
        about("Promise 15", CORE);
        range("held(_, 0, 0)", (x, core) -> x.held(core, 0, 0), 0, 3, UNKNOWN);
        about("Promise 15", "`place`: 0 to 7");
        range("held(1, _, 0)", (x, place) -> x.held(1, place, 0), 0, 7, BAD_VALUE);
        about("Promise 15", "`what`: 0 for the line, 1 for its value there, 2 for whether it is dirty (1, otherwise 0)");
        range("held(0, 0, _)", (x, what) -> x.held(0, 0, what), 0, 2, BAD_VALUE);
        range("held(2, 7, _) of none", (x, what) -> x.held(2, 7, what), 0, 2, BAD_VALUE);
    }

    private void heldTells() {
        about("Promise 15", "Tells the line that is held at a place.");
        SnoopFilter x = new SnoopFilter();
        x.read(0, 0);
        x.read(3, 255);
        is("held(0, 0, 0)", x.held(0, 0, 0), 0);
        is("held(3, 7, 0)", x.held(3, 7, 0), 255);
        about("Promise 15", "`what`: 0 for the line, 1 for its value there, 2 for whether it is dirty (1, otherwise 0)");
        is("the value of a clean line", x.held(0, 0, 1), 0);
        is("a clean line is not dirty", x.held(0, 0, 2), 0);
        x.write(0, 0, 9999);
        is("the line", x.held(0, 0, 0), 0);
        is("the value of a dirty line", x.held(0, 0, 1), 9999);
        is("a dirty line", x.held(0, 0, 2), 1);
        x.read(1, 0);
        is("a line that is saved", x.held(0, 0, 2), 0);
        is("the value of another's line", x.held(1, 0, 1), 9999);
    }

    private void heldAnswers() {
        about("Promise 15", "Returns the number; UNKNOWN (core); BAD_VALUE; NONE if none is held there.");
        SnoopFilter x = object(CALM);
        is("held(1, 0, 0)", x.held(1, 0, 0), 0);
        for (int what = 0; what <= 2; what++) {
            int told = what;
            refused(FRESH, "held(1, 0, " + what + ") of an empty cache", y -> y.held(1, 0, told), NONE);
            refused(CALM, "held(1, 7, " + what + ") beside lines", y -> y.held(1, 7, told), NONE);
            refused(CALM.andThen(y -> y.drop(1, 17)), "held(1, 1, " + what + ") of a dropped line", y -> y.held(1, 1, told), NONE);
            refused(CALM.andThen(y -> y.forget(1)), "held(1, 0, " + what + ") as it forgot", y -> y.held(1, 0, told), NONE);
            refused(CALM.andThen(y -> y.write(0, 17, 1)), "held(1, 1, " + what + ") of a line that was taken",
                    y -> y.held(1, 1, told), NONE);
        }
        is("held(4, 8, 3)", x.held(4, 8, 3), UNKNOWN);
        is("held(1, 8, 0)", x.held(1, 8, 0), BAD_VALUE);
        is("held(1, 7, 3) of none", x.held(1, 7, 3), BAD_VALUE);
    }

    private void counterTells() {
        about("Promise 16", CORE);
        range("counter(_, 0)", (x, core) -> x.counter(core, 0), 0, 3, UNKNOWN);
        about("Promise 16", "`counter`: 0 to 23");
        range("counter(1, _)", (x, counter) -> x.counter(1, counter), 0, 23, UNKNOWN);
        about("Promise 16", "Returns the counter of its filter; UNKNOWN (core or counter).");
        SnoopFilter x = new SnoopFilter();
        x.read(3, 23);
        x.read(3, 2);
        x.read(0, 0);
        x.read(0, 5);
        is("counter(3, 23)", x.counter(3, 23), 1);
        is("counter(3, 22)", x.counter(3, 22), 1);
        is("counter(3, 21)", x.counter(3, 21), 0);
        is("counter(3, 0)", x.counter(3, 0), 0);
        is("counter(0, 0)", x.counter(0, 0), 1);
        is("counter(0, 5)", x.counter(0, 5), 2);
        is("counter(0, 23)", x.counter(0, 23), 0);
        is("counter(4, 24)", x.counter(4, 24), UNKNOWN);
        is("counter(4, 0)", x.counter(4, 0), UNKNOWN);
        is("counter(0, 24)", x.counter(0, 24), UNKNOWN);
    }

    private void bitTells() {
        about("Promise 17", CORE);
        range("bit(_, 0)", (x, core) -> x.bit(core, 0), 0, 3, UNKNOWN);
        about("Promise 17", "`region`: 0 to 15");
        range("bit(1, _)", (x, region) -> x.bit(1, region), 0, 15, UNKNOWN);
        about("Promise 17", "Returns the bit of its filter; UNKNOWN (core or region).");
        SnoopFilter x = new SnoopFilter();
        x.read(3, 255);
        x.read(0, 15);
        is("bit(3, 15)", x.bit(3, 15), 1);
        is("bit(3, 14)", x.bit(3, 14), 0);
        is("bit(3, 0)", x.bit(3, 0), 0);
        is("bit(0, 0)", x.bit(0, 0), 1);
        is("bit(0, 1)", x.bit(0, 1), 0);
        x.read(0, 16);
        is("bit(0, 1) of 16", x.bit(0, 1), 1);
        is("bit(4, 16)", x.bit(4, 16), UNKNOWN);
        is("bit(4, 0)", x.bit(4, 0), UNKNOWN);
        is("bit(0, 16)", x.bit(0, 16), UNKNOWN);
    }

    private void lineArguments() {
        about("Promise 18", LINE);
        range("line(_, 0)", (x, line) -> x.line(line, 0), 0, 255, UNKNOWN);
        range("line(_, 5)", (x, line) -> x.line(line, 5), 0, 255, UNKNOWN);
        about("Promise 18", OF_LINE);
        range("line(0, _)", (x, what) -> x.line(0, what), 0, 5, BAD_VALUE);
        range("line(255, _)", (x, what) -> x.line(255, what), 0, 5, BAD_VALUE);
    }

    private void lineTellsValues() {
        about("Promise 18", OF_LINE);
        for (int value : new int[] {0, 9999}) {
            SnoopFilter x = new SnoopFilter();
            x.write(0, 255, 5000);
            x.drop(0, 255);
            is("the memory's value", x.line(255, 0), 5000);
            is("a reader's value, from the memory", x.line(255, 1), 5000);
            x.read(3, 255);
            is("a reader's value of a clean line", x.line(255, 1), 5000);
            x.write(2, 255, value);
            is("the memory's value of a dirty line", x.line(255, 0), 5000);
            is("a reader's value of a dirty line", x.line(255, 1), value);
            is("asking reads nothing", x.held(2, 7, 2), 1);
            is("read(1, 255)", x.read(1, 255), value);
            is("the memory's value then", x.line(255, 0), value);
            is("a reader's value of clean lines", x.line(255, 1), value);
            x.write(1, 254, 3);
            is("a reader's value of a line beside a dirty one", x.line(255, 1), value);
        }
        SnoopFilter each = new SnoopFilter();
        for (int core = 0; core < 4; core++) {
            each.write(core, 0, 100 + core);
            is("a reader's value of a line that is dirty in " + core, each.line(0, 1), 100 + core);
        }
    }

    private void lineTellsSets() {
        about("Promise 18", OF_LINE);
        for (int set = 0; set <= 15; set++) {
            SnoopFilter x = new SnoopFilter();
            for (int core = 0; core < 4; core++) {
                if ((set & 1 << core) != 0) {
                    x.read(core, 100);
                }
            }
            is("holders of " + set, x.line(100, 2), set);
            is("those that may have it", x.line(100, 3), set);
            is("holders of another line", x.line(101, 2), 0);
            is("those that may have another line", x.line(101, 3), 0);
        }
        for (int set = 0; set <= 15; set++) {
            SnoopFilter x = new SnoopFilter();
            for (int core = 0; core < 4; core++) {
                if ((set & 1 << core) != 0) {
                    x.read(core, 0);
                    x.read(core, 17);
                }
            }
            is("holders of what " + set + " may have", x.line(24, 2), 0);
            is("those that may have it", x.line(24, 3), set);
        }
    }

    private void lineTellsCounters() {
        about("Promise 18", OF_LINE);
        SnoopFilter x = new SnoopFilter();
        int[][] numbers = {{0, 0, 5}, {1, 1, 12}, {2, 2, 19}, {3, 3, 2}, {23, 23, 22}, {24, 0, 5}, {47, 23, 22}, {48, 0, 5},
            {100, 4, 9}, {239, 23, 22}, {240, 0, 5}, {254, 14, 7}, {255, 15, 14}};
        for (int[] each : numbers) {
            is("line(" + each[0] + ", 4)", x.line(each[0], 4), each[1]);
            is("line(" + each[0] + ", 5)", x.line(each[0], 5), each[2]);
        }
    }

    private void lineAnswers() {
        about("Promise 18", "Returns the number; UNKNOWN; BAD_VALUE.");
        is("line(255, 4)", new SnoopFilter().line(255, 4), 15);
        is("line(256, 0)", new SnoopFilter().line(256, 0), UNKNOWN);
        is("line(256, 6)", new SnoopFilter().line(256, 6), UNKNOWN);
        is("line(255, 6)", new SnoopFilter().line(255, 6), BAD_VALUE);
        is("line(0, -1)", new SnoopFilter().line(0, -1), BAD_VALUE);
    }

    private void reasonArguments() {
        about("Promise 19", CORE);
        range("reason(_, 0)", (x, core) -> x.reason(core, 0), 0, 3, UNKNOWN);
        about("Promise 19", LINE);
        range("reason(0, _)", (x, line) -> x.reason(0, line), 0, 255, UNKNOWN);
    }

    private void reasonTells() {
        about("Promise 19", "Tells why a snoop for a line comes to a core, or is kept off.");
        SnoopFilter x = object(CALM);
        for (int line = 0; line <= 255; line++) {
            int reason = line == 0 || line == 17 ? 0 : line == 24 ? 1 : line >= 32 ? 2 : 3;
            is("reason(1, " + line + ")", x.reason(1, line), reason);
        }
        about("Promise 19", REASONS);
        is("held clean", x.reason(1, 0), 0);
        is("held dirty", x.reason(1, 17), 0);
        is("in vain", x.reason(1, 24), 1);
        is("by the bit alone, both counters above 0", x.reason(1, 48), 2);
        is("by the bit and by counters", x.reason(1, 255), 2);
        is("by the first counter alone", x.reason(1, 13), 3);
        is("by the second counter alone", x.reason(1, 5), 3);
        is("by both counters", x.reason(1, 7), 3);
        is("of an empty filter", x.reason(0, 0), 2);
        x.drop(1, 0);
        is("by a counter, as it is held no more", x.reason(1, 0), 3);
        x.forget(1);
        is("by the bit, as it is forgotten", x.reason(1, 0), 2);
        is("reason(4, 0)", x.reason(4, 0), UNKNOWN);
        is("reason(0, 256)", x.reason(0, 256), UNKNOWN);
        is("asking is no snoop", x.count(2), 0);
    }

    private void costArguments() {
        about("Promise 20", CORE);
        range("cost(_, 24, true, 0)", (x, core) -> x.cost(core, 24, true, 0), 0, 3, UNKNOWN);
        range("cost(_, 24, false, 0)", (x, core) -> x.cost(core, 24, false, 0), 0, 3, UNKNOWN);
        about("Promise 20", LINE);
        range("cost(0, _, true, 0)", (x, line) -> x.cost(0, line, true, 0), 0, 255, UNKNOWN);
        range("cost(0, _, false, 0)", (x, line) -> x.cost(0, line, false, 0), 0, 255, UNKNOWN);
        about("Promise 20", OF_COST);
        range("cost(0, 24, true, _)", (x, what) -> x.cost(0, 24, true, what), 0, 3, BAD_VALUE);
        range("cost(1, 0, false, _)", (x, what) -> x.cost(1, 0, false, what), 0, 3, BAD_VALUE);
    }

    private void cost(Consumer<SnoopFilter> start, int core, int line, boolean writes, int... want) {
        SnoopFilter x = object(start);
        for (int what = 0; what < 4; what++) {
            is("cost(" + core + ", " + line + ", " + writes + ", " + what + ")", x.cost(core, line, writes, what), want[what]);
        }
    }

    private void costOfSnoops() {
        about("Promise 20", "`writes`: whether it is written, otherwise read");
        cost(FRESH, 0, 0, false, 0, 0, 0, 0);
        cost(FRESH, 3, 255, true, 0, 0, 0, 0);
        // Reading saves another's dirty line; writing takes it unsaved.
        cost(CALM, 0, 17, false, 1, 0, 1, 0);
        cost(CALM, 0, 17, true, 1, 0, 0, 0);
        // Reading what is held is a hit; writing it snoops, if it is clean.
        Consumer<SnoopFilter> shared = x -> {
            x.read(0, 40);
            x.read(1, 40);
            x.read(2, 40);
            x.read(3, 40);
        };
        cost(shared, 2, 40, false, 0, 0, 0, 0);
        cost(shared, 2, 40, true, 3, 0, 0, 0);
        about("Promise 20", OF_COST);
        cost(CALM, 1, 17, true, 0, 0, 0, 0);
        cost(CALM, 1, 17, false, 0, 0, 0, 0);
        cost(CALM, 0, 24, false, 1, 1, 0, 0);
        cost(CALM, 0, 24, true, 1, 1, 0, 0);
        // Its own filter is not asked: core 1 may have 24 itself.
        cost(CALM, 1, 24, false, 0, 0, 0, 0);
        cost(CALM, 1, 24, true, 0, 0, 0, 0);
        Consumer<SnoopFilter> three = x -> {
            for (int core = 1; core < 4; core++) {
                x.read(core, 0);
                x.read(core, 17);
            }
        };
        cost(three, 0, 24, false, 3, 3, 0, 0);
        cost(three.andThen(x -> x.read(2, 24)), 0, 24, true, 3, 2, 0, 0);
    }

    private void costOfWritingBack() {
        about("Promise 20", OF_COST);
        Consumer<SnoopFilter> dirty = x -> {
            x.write(0, 8, 1);
            x.write(0, 9, 2);
            x.write(1, 16, 3);
            x.read(2, 100);
        };
        cost(dirty, 0, 24, false, 0, 0, 1, 0);
        cost(dirty, 0, 24, true, 0, 0, 1, 0);
        cost(dirty, 0, 16, false, 1, 0, 2, 0);
        cost(dirty, 0, 16, true, 1, 0, 1, 0);
        cost(dirty, 2, 104, false, 0, 0, 0, 0);
        cost(dirty, 2, 108, true, 0, 0, 0, 0);
        cost(dirty, 0, 8, true, 0, 0, 0, 0);
        cost(dirty, 3, 200, false, 0, 0, 0, 0);
    }

    private void costOfForgetting() {
        about("Promise 20", OF_COST);
        Consumer<SnoopFilter> dirty = x -> {
            x.write(0, 0, 1);
            x.write(0, 1, 2);
            x.read(0, 2);
        };
        // 0, 1 and 2 have six counters; 3 has 3, and 2 as well.
        cost(dirty.andThen(x -> x.set(1, 8)), 0, 3, true, 0, 0, 0, 0);
        cost(dirty.andThen(x -> x.set(1, 7)), 0, 3, true, 0, 0, 2, 1);
        cost(dirty.andThen(x -> x.set(1, 7)), 0, 3, false, 0, 0, 2, 1);
        cost(dirty.andThen(x -> x.set(1, 1)), 0, 0, true, 0, 0, 0, 0);
        cost(dirty.andThen(x -> x.set(1, 1)), 0, 2, true, 0, 0, 0, 0);
        cost(dirty.andThen(x -> x.set(1, 1)), 0, 2, false, 0, 0, 0, 0);
        // 24 takes the place and the counters of 0.
        cost(dirty.andThen(x -> x.set(1, 7)), 0, 24, false, 0, 0, 1, 0);
        cost(dirty.andThen(x -> x.set(1, 6)), 0, 24, false, 0, 0, 2, 1);
        // The other core does not forget by a snoop, and its forgetting before is no cost.
        cost(dirty.andThen(x -> x.set(1, 6)), 1, 0, false, 1, 0, 1, 0);
        cost(dirty.andThen(x -> x.forget(0)), 0, 5, false, 0, 0, 0, 0);
        cost(x -> x.set(1, 2), 3, 255, true, 0, 0, 0, 1);
        cost(x -> x.set(1, 3), 3, 255, true, 0, 0, 0, 0);
    }

    /** What it tells is what the call then adds to the accounts, and telling it changes nothing. */
    private void costTellsWhatComes() {
        about("Promise 20", "Tells what reading or writing a line would cost a core.");
        for (int core = 0; core < 4; core++) {
            for (int line : new int[] {0, 3, 5, 11, 17, 24, 29, 77, 85, 200, 255}) {
                costIsWhatComes(core, line, false);
                costIsWhatComes(core, line, true);
            }
        }
        String before = Told.everything(BUSY);
        for (int what = 0; what < 4; what++) {
            int told = what;
            holds("reading is not done", before.equals(Told.everything(BUSY.andThen(x -> x.cost(0, 17, false, told)))));
            holds("writing is not done", before.equals(Told.everything(BUSY.andThen(x -> x.cost(0, 3, true, told)))));
        }
    }

    private void costIsWhatComes(int core, int line, boolean writes) {
        SnoopFilter x = object(BUSY);
        int[] accounts = {2, 3, 5, 6};
        int[] want = new int[4];
        for (int what = 0; what < 4; what++) {
            want[what] = x.cost(core, line, writes, what) + x.count(accounts[what]);
        }
        int answer = writes ? x.write(core, line, 1) : x.read(core, line);
        holds("the call is answered", answer >= 0);
        for (int what = 0; what < 4; what++) {
            is("cost(" + core + ", " + line + ", " + writes + ", " + what + ")", x.count(accounts[what]), want[what]);
        }
    }

    private void costAnswers() {
        about("Promise 20", "Returns the number; UNKNOWN (core or line); BAD_VALUE.");
        is("cost(3, 255, true, 3)", new SnoopFilter().cost(3, 255, true, 3), 0);
        is("cost(4, 0, true, 4)", new SnoopFilter().cost(4, 0, true, 4), UNKNOWN);
        is("cost(0, 256, false, -1)", new SnoopFilter().cost(0, 256, false, -1), UNKNOWN);
        is("cost(0, 0, true, 4)", new SnoopFilter().cost(0, 0, true, 4), BAD_VALUE);
        is("cost(0, 0, false, -1)", new SnoopFilter().cost(0, 0, false, -1), BAD_VALUE);
    }

    private void vainTells() {
        about("Promise 21", CORE);
        range("vain(_)", (x, core) -> x.vain(core), 0, 3, UNKNOWN);
        about("Promise 21", "Returns how many; UNKNOWN.");
        is("vain(0) at first", new SnoopFilter().vain(0), 0);
        is("vain(3) at first", new SnoopFilter().vain(3), 0);
        is("vain(-1)", new SnoopFilter().vain(-1), UNKNOWN);
        is("vain(4)", new SnoopFilter().vain(4), UNKNOWN);
        about("Promise 21", "Tells for how many lines of all 256 a core would be asked in vain.");
        SnoopFilter x = new SnoopFilter();
        x.read(1, 0);
        is("of what it holds alone", x.vain(1), 0);
        x.read(1, 17);
        is("of 24", x.vain(1), 1);
        is("of another core", x.vain(0), 0);
        x.read(1, 24);
        is("of 0, that 24 took the place of", x.vain(1), 1);
        x.forget(1);
        is("of none", x.vain(1), 0);
        // 255 is the last line: it shares its counters with 15, which a core that held region 15 may have.
        SnoopFilter last = new SnoopFilter();
        last.read(2, 240);
        last.read(2, 15);
        is("reason(2, 255)", last.reason(2, 255), 1);
        // 0, 240 and 255 have the bits; the counters of 240 are those of 0, and those of 255 are those of 15.
        is("of 0 and 255", last.vain(2), 2);
        SnoopFilter first = new SnoopFilter();
        first.read(2, 24);
        first.read(2, 1);
        is("of 0 and 25", first.vain(2), 2);
    }

    /** All but two counters stick, and each region's bit is 1: the core may have nearly all lines. */
    private void vainOfMany() {
        about("Promise 21", "Tells for how many lines of all 256 a core would be asked in vain.");
        SnoopFilter x = sticking();
        for (int region = 0; region < 16; region++) {
            x.read(0, 16 * region);
            x.read(0, 16 * region + 8);
        }
        boolean[] above = new boolean[24];
        for (int counter = 0; counter < 24; counter++) {
            above[counter] = x.counter(0, counter) > 0;
        }
        int may = 0;
        for (int line = 0; line <= 255; line++) {
            boolean both = above[line % 24] && above[(7 * line + 5) % 24];
            may += both && x.held(0, line % 8, 0) != line ? 1 : 0;
        }
        is("bits", x.core(0, 4), 16);
        is("it did not forget", x.core(0, 10), 0);
        holds("it may have many: " + may, may > 200);
        is("vain(0)", x.vain(0), may);
    }

    /** Lets a core be asked in vain as often as told. */
    private static void askInVain(SnoopFilter x, int core, int times) {
        x.read(core, 0);
        x.read(core, 17);
        int asker = (core + 1) % 4;
        for (int i = 0; i < times; i++) {
            x.read(asker, 24);
            x.forget(asker);
        }
        x.forget(core);
    }

    private void worstFinds() {
        about("Promise 22", "Finds the core to which the most snoops came in vain so far, of several the lowest.");
        for (int core = 0; core < 4; core++) {
            SnoopFilter one = new SnoopFilter();
            askInVain(one, core, 1);
            is("snoops in vain", one.core(core, 8), 1);
            is("worst() of " + core, one.worst(), core);
            for (int other = 0; other < 4; other++) {
                if (other != core) {
                    SnoopFilter two = new SnoopFilter();
                    askInVain(two, core, 2);
                    askInVain(two, other, 2);
                    is("of " + core + " and " + other + " as often", two.worst(), Math.min(core, other));
                    askInVain(two, core, 1);
                    is("of " + core + " once more", two.worst(), core);
                }
            }
        }
        SnoopFilter all = new SnoopFilter();
        for (int core = 3; core >= 0; core--) {
            askInVain(all, core, 3);
        }
        is("of all as often", all.worst(), 0);
    }

    private void worstAnswers() {
        about("Promise 22", "Returns the core; NONE if none came in vain.");
        refused(FRESH, "worst() at first", SnoopFilter::worst, NONE);
        refused(CALM, "worst() without snoops", SnoopFilter::worst, NONE);
        SnoopFilter x = object(CALM);
        x.read(0, 17);
        x.read(0, 0);
        x.read(0, 255);
        is("snoops that came", x.count(2), 2);
        is("worst() of snoops that were not in vain", x.worst(), NONE);
        x.read(0, 24);
        is("worst() of one in vain", x.worst(), 1);
        x.undo();
        is("worst() as it is undone", x.worst(), NONE);
        SnoopFilter highest = new SnoopFilter();
        askInVain(highest, 3, 1);
        is("worst() of the last core", highest.worst(), 3);
    }

    private void countTellsOfLines() {
        about("Promise 23", OF_ALL);
        SnoopFilter x = new SnoopFilter();
        for (int i = 0; i < 32; i++) {
            is("lines of " + i, x.count(0), i);
            x.read(i / 8, i % 8);
        }
        is("32 lines, each of them four times", x.count(0), 32);
        is("dirty ones", x.count(1), 0);
        x.write(0, 0, 1);
        is("lines as three are taken", x.count(0), 29);
        is("dirty ones as one is written", x.count(1), 1);
        SnoopFilter dirty = new SnoopFilter();
        for (int i = 0; i < 32; i++) {
            dirty.write(i / 8, i, 1);
        }
        is("dirty ones of full caches", dirty.count(1), 32);
        is("lines of full caches", dirty.count(0), 32);
        is("written back", dirty.count(5), 0);
        is("writes", dirty.count(9), 32);
    }

    private void countTellsOfSnoops() {
        about("Promise 23", OF_ALL);
        SnoopFilter x = object(CALM);
        is("kept off", x.count(4), 6);
        x.read(0, 24);
        is("came, in vain", x.count(2), 1);
        is("in vain", x.count(3), 1);
        is("kept off then", x.count(4), 8);
        x.read(2, 17);
        is("came", x.count(2), 2);
        is("in vain still", x.count(3), 1);
        is("written back", x.count(5), 1);
        for (int what = 2; what <= 4; what++) {
            int sum = 0;
            for (int core = 0; core < 4; core++) {
                sum += x.core(core, what + 5);
            }
            is("count(" + what + ") is the sum of the cores", x.count(what), sum);
        }
    }

    private void countTellsOfTheRest() {
        about("Promise 23", OF_ALL);
        SnoopFilter x = object(CALM);
        x.read(1, 17);
        x.read(1, 17);
        x.read(1, 0);
        x.read(0, 17);
        is("hits", x.count(7), 3);
        is("misses", x.count(8), 2);
        is("writes", x.count(9), 1);
        x.forget(1);
        x.forget(1);
        x.forget(0);
        is("forgot on purpose", x.count(6), 2);
        x.set(1, 2);
        x.read(3, 40);
        is("forgot as it was full", x.count(6), 3);
        x.set(0, 9);
        is("the setting 0", x.count(10), 9);
        is("the setting 1", x.count(11), 2);
        is("states", x.count(12), 4);
        Due.perform(x, "w2.3=4;w2.3=5;r2.3;r1.3");
        is("writes of a program", x.count(9), 3);
        is("hits of a program", x.count(7), 4);
        is("misses of a program", x.count(8), 4);
        is("length of the text", x.count(13), 23);
        x.undo();
        is("states behind undo()", x.count(12), 3);
        is("writes behind undo()", x.count(9), 1);
        is("length of the text behind undo()", x.count(13), 23);
    }

    private void countAnswers() {
        about("Promise 23", "Returns the number; BAD_VALUE.");
        range("count(_)", (x, what) -> x.count(what), 0, 13, BAD_VALUE);
        is("count(0)", new SnoopFilter().count(0), 0);
        is("count(13)", new SnoopFilter().count(13), 0);
        is("count(10) at first", new SnoopFilter().count(10), 3);
        is("count(11) at first", new SnoopFilter().count(11), 20);
    }
}
