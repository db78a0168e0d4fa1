/** ERRORS, and the number of calls. */
final class ErrorsSentences extends Sentences {
    private static final String SECTION = "ERRORS";

    ErrorsSentences(Due due, Document document) {
        super(due, document);
    }

    @Override
    void run() {
        allCalls();
        constants();
        reported();
        orderOfActs();
        orderOfWhatIsTold();
        orderOfPerform();
        noneIsLast();
        refusedActs();
        refusedTexts();
        refusedTelling();
        stopAlone();
    }

    private void allCalls() {
        about("What it is", "An object is used for at most 512 calls after it has been made; what later calls answer is free.");
        SnoopFilter x = new SnoopFilter();
        for (int call = 1; call <= 510; call++) {
            is("call " + call, x.write(0, call % 256, call), 0);
        }
        is("call 511", x.count(9), 510);
        is("call 512", x.read(0, 254), 510);
        SnoopFilter y = new SnoopFilter();
        for (int call = 1; call <= 511; call++) {
            y.read(0, call % 16);
        }
        is("the tallies of 511 calls", y.core(0, 6), 511);
    }

    private void constants() {
        about(SECTION, "Errors are reported by the constants below.");
        SnoopFilter x = object(CALM);
        is("an UNKNOWN", x.read(4, 0), SnoopFilter.UNKNOWN);
        is("a BAD_VALUE", x.write(0, 0, 10000), SnoopFilter.BAD_VALUE);
        is("a NOT_POSSIBLE", x.drop(0, 0), SnoopFilter.NOT_POSSIBLE);
        is("a NONE", x.worst(), SnoopFilter.NONE);
        Due.retype(x, "f".repeat(80));
        is("a FULL", x.type('f'), SnoopFilter.FULL);
    }

    private void reported() {
        about(SECTION, "The constants: `UNKNOWN = -1`: There is no such core, line, counter, region or setting.");
        is("UNKNOWN", SnoopFilter.UNKNOWN, -1);
        is("a core", new SnoopFilter().forget(4), -1);
        is("a line", new SnoopFilter().read(0, 256), -1);
        is("a counter", new SnoopFilter().counter(0, 24), -1);
        is("a region", new SnoopFilter().bit(0, 16), -1);
        is("a setting", new SnoopFilter().set(2, 1), -1);
        about(SECTION, "`BAD_VALUE = -2`: Another argument is out of range.");
        is("BAD_VALUE", SnoopFilter.BAD_VALUE, -2);
        is("a value", new SnoopFilter().write(0, 0, -1), -2);
        is("a setting's value", new SnoopFilter().set(0, 0), -2);
        is("a place", new SnoopFilter().held(0, 8, 0), -2);
        is("what", new SnoopFilter().count(14), -2);
        about(SECTION, "`FULL = -3`: There is no more room.");
        is("FULL", SnoopFilter.FULL, -3);
        SnoopFilter x = new SnoopFilter();
        Due.retype(x, "r".repeat(80));
        is("the text", x.type('r'), -3);
        about(SECTION, "`NOT_POSSIBLE = -4`: This is not possible.");
        is("NOT_POSSIBLE", SnoopFilter.NOT_POSSIBLE, -4);
        is("dropping", x.drop(0, 0), -4);
        is("performing", Due.perform(x, "d0.0"), -4);
        about(SECTION, "`NONE = -5`: There is no such thing; not an error.");
        is("NONE", SnoopFilter.NONE, -5);
        is("a state", x.undo(), -5);
        is("a snapshot", x.restore(), -5);
        is("a line that is held", x.held(0, 0, 0), -5);
        is("it does not stop a program", Due.perform(x, "f0"), 0);
    }

    private void orderOfActs() {
        about(SECTION, "Where several errors can apply, the order of the @return line is the order of the checks.");
        refused("read(4, 256)", x -> x.read(4, 256), UNKNOWN);
        refused("write(4, 0, 10000)", x -> x.write(4, 0, 10000), UNKNOWN);
        refused("write(-1, 0, -1)", x -> x.write(-1, 0, -1), UNKNOWN);
        refused("write(0, 256, 10000)", x -> x.write(0, 256, 10000), UNKNOWN);
        refused("write(0, -1, -1)", x -> x.write(0, -1, -1), UNKNOWN);
        refused("drop(4, 1)", x -> x.drop(4, 1), UNKNOWN);
        refused("drop(0, 256)", x -> x.drop(0, 256), UNKNOWN);
        refused("forget(4)", x -> x.forget(4), UNKNOWN);
        refused("set(2, 0)", x -> x.set(2, 0), UNKNOWN);
        refused("set(-1, 25)", x -> x.set(-1, 25), UNKNOWN);
        refused("set(2, 3)", x -> x.set(2, 3), UNKNOWN);
    }

    private void orderOfWhatIsTold() {
        about(SECTION, "Where several errors can apply, the order of the @return line is the order of the checks.");
        refused("core(4, 11)", x -> x.core(4, 11), UNKNOWN);
        refused("core(-1, -1)", x -> x.core(-1, -1), UNKNOWN);
        refused("held(4, 8, 0)", x -> x.held(4, 8, 0), UNKNOWN);
        refused("held(-1, 0, 3)", x -> x.held(-1, 0, 3), UNKNOWN);
        refused("held(4, 5, 0) of none", x -> x.held(4, 5, 0), UNKNOWN);
        refused("held(2, 8, 0) of none", x -> x.held(2, 8, 0), BAD_VALUE);
        refused("held(2, 5, 3) of none", x -> x.held(2, 5, 3), BAD_VALUE);
        refused("line(256, 6)", x -> x.line(256, 6), UNKNOWN);
        refused("line(-1, -1)", x -> x.line(-1, -1), UNKNOWN);
        refused("cost(4, 0, true, 4)", x -> x.cost(4, 0, true, 4), UNKNOWN);
        refused("cost(-1, 0, false, -1)", x -> x.cost(-1, 0, false, -1), UNKNOWN);
        refused("cost(0, 256, false, 4)", x -> x.cost(0, 256, false, 4), UNKNOWN);
        refused("cost(0, -1, true, -1)", x -> x.cost(0, -1, true, -1), UNKNOWN);
        refused("stopped(2) before any stop", x -> x.stopped(2), BAD_VALUE);
        refused("stopped(-1) before any stop", x -> x.stopped(-1), BAD_VALUE);
    }

    private void orderOfPerform() {
        about(SECTION, "Where several errors can apply, the order of the @return line is the order of the checks.");
        SnoopFilter x = new SnoopFilter();
        is("a fault behind what would be stopped", Due.perform(x, "d0.0;"), -105);
        is("no stop", x.stopped(0), NONE);
        is("a fault at the end", Due.perform(x, "d0.0;r0.256"), -110);
        is("still no stop", x.stopped(1), NONE);
        is("without the fault", Due.perform(x, "d0.0;r0.25"), NOT_POSSIBLE);
    }

    private void noneIsLast() {
        about(SECTION, "NONE is no error; it is returned only if no error applies.");
        is("forget(4)", new SnoopFilter().forget(4), UNKNOWN);
        is("forget(3)", new SnoopFilter().forget(3), NONE);
        is("set(0, 10)", new SnoopFilter().set(0, 10), BAD_VALUE);
        is("set(0, 3)", new SnoopFilter().set(0, 3), NONE);
        is("stopped(2)", new SnoopFilter().stopped(2), BAD_VALUE);
        is("stopped(1)", new SnoopFilter().stopped(1), NONE);
        is("held(0, 0, 3)", new SnoopFilter().held(0, 0, 3), BAD_VALUE);
        is("held(0, 0, 2)", new SnoopFilter().held(0, 0, 2), NONE);
        SnoopFilter x = new SnoopFilter();
        is("f0 in a program", Due.perform(x, "f0;w0.1=2;f1;r0.1"), 2);
        is("it stops nothing", x.stopped(0), NONE);
    }

    private void refusedActs() {
        about(SECTION, "A call that returns an error or NONE changes nothing (but for the latest stop of perform()).");
        refused("read(4, 0)", x -> x.read(4, 0), UNKNOWN);
        refused("read(0, 256)", x -> x.read(0, 256), UNKNOWN);
        refused("write(4, 0, 1)", x -> x.write(4, 0, 1), UNKNOWN);
        refused("write(0, 256, 1)", x -> x.write(0, 256, 1), UNKNOWN);
        refused("write(0, 24, 10000)", x -> x.write(0, 24, 10000), BAD_VALUE);
        refused("write(0, 24, -1)", x -> x.write(0, 24, -1), BAD_VALUE);
        refused("drop(4, 0)", x -> x.drop(4, 0), UNKNOWN);
        refused("drop(0, 256)", x -> x.drop(0, 256), UNKNOWN);
        refused("drop(0, 0) of another line at its place", x -> x.drop(0, 0), NOT_POSSIBLE);
        refused("drop(2, 0) of an empty cache", x -> x.drop(2, 0), NOT_POSSIBLE);
        refused("forget(-1)", x -> x.forget(-1), UNKNOWN);
        refused("forget(4)", x -> x.forget(4), UNKNOWN);
        refused("forget(2)", x -> x.forget(2), NONE);
        refused("set(2, 1)", x -> x.set(2, 1), UNKNOWN);
        refused("set(0, 10)", x -> x.set(0, 10), BAD_VALUE);
        refused("set(1, 25)", x -> x.set(1, 25), BAD_VALUE);
        refused(FRESH, "set(0, 3)", x -> x.set(0, 3), NONE);
        refused(FRESH, "set(1, 20)", x -> x.set(1, 20), NONE);
        refused(BUSY, "set(0, 1)", x -> x.set(0, 1), NONE);
        refused(BUSY, "set(1, 9)", x -> x.set(1, 9), NONE);
        refused(FRESH, "undo()", SnoopFilter::undo, NONE);
        refused(CALM, "restore()", SnoopFilter::restore, NONE);
    }

    private void refusedTexts() {
        about(SECTION, "A call that returns an error or NONE changes nothing (but for the latest stop of perform()).");
        for (char sign : new char[] {0, 'x', ';', '0', 65535}) {
            refused(BUSY.andThen(x -> Due.retype(x, "f0;".repeat(26) + "f3")), "type() behind 80", x -> x.type(sign), FULL);
        }
        refused(FRESH, "perform() of the empty text", SnoopFilter::perform, -100);
        refused(BUSY.andThen(SnoopFilter::clearText), "perform() of the empty text", SnoopFilter::perform, -100);
        refused(BUSY.andThen(x -> Due.retype(x, "w0.24=1;r1.24;f1;f4")), "perform() with a fault", SnoopFilter::perform, -118);
        refused(FRESH, "stopped(0)", x -> x.stopped(0), NONE);
        refused("stopped(2)", x -> x.stopped(2), BAD_VALUE);
    }

    private void refusedTelling() {
        about(SECTION, "A call that returns an error or NONE changes nothing (but for the latest stop of perform()).");
        refused("core(0, 11)", x -> x.core(0, 11), BAD_VALUE);
        refused("held(0, 8, 0)", x -> x.held(0, 8, 0), BAD_VALUE);
        refused("held(0, 6, 0)", x -> x.held(0, 6, 0), NONE);
        refused("counter(0, 24)", x -> x.counter(0, 24), UNKNOWN);
        refused("bit(0, 16)", x -> x.bit(0, 16), UNKNOWN);
        refused("line(0, 6)", x -> x.line(0, 6), BAD_VALUE);
        refused("reason(0, 256)", x -> x.reason(0, 256), UNKNOWN);
        refused("cost(0, 256, true, 0)", x -> x.cost(0, 256, true, 0), UNKNOWN);
        refused("cost(0, 24, true, 4)", x -> x.cost(0, 24, true, 4), BAD_VALUE);
        refused("vain(4)", x -> x.vain(4), UNKNOWN);
        refused("count(14)", x -> x.count(14), BAD_VALUE);
        refused(FRESH, "worst()", SnoopFilter::worst, NONE);
    }

    /** The stopped program has done all kinds of acts before it is stopped. */
    private void stopAlone() {
        about(SECTION, "A call that returns an error or NONE changes nothing (but for the latest stop of perform()).");
        String text = "w0.24=1;r1.24;f1;d0.24;d0.24;r2.8";
        SnoopFilter x = object(BUSY);
        is("the stop before", x.stopped(0), 1);
        is("perform()", Due.perform(x, text), NOT_POSSIBLE);
        is("the stop", x.stopped(0), 4);
        is("its error", x.stopped(1), NOT_POSSIBLE);
        is("states", x.count(12), 4);
        holds("the state is as it was", Told.state(BUSY).equals(Told.state(BUSY.andThen(y -> Due.perform(y, text)))));
        // Once the stop is the same, performing again changes nothing at all.
        refused(BUSY.andThen(y -> Due.perform(y, text)), "perform() again", SnoopFilter::perform, NOT_POSSIBLE);
    }
}
