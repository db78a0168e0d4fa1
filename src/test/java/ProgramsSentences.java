import java.util.function.Consumer;

/** The promises 7 to 10. */
final class ProgramsSentences extends Sentences {
    private static final String DOES_ALL = "Does all that the program of the text, which stays, tells, one after the other (as"
            + " read(), write(), drop() and forget()); all of it, or nothing.";
    private static final String RETURNS_SUM = "Returns the sum of the values that were read; -100 minus the fault of the text if it"
            + " has one (which is an error); NOT_POSSIBLE if any is stopped.";
    private static final String RETURNS_STOP = "Returns the number; BAD_VALUE; NONE if nothing was stopped yet.";

    ProgramsSentences(Due due, Document document) {
        super(due, document);
    }

    @Override
    void run() {
        typesBehind();
        typesAnything();
        typeAnswers();
        clears();
        clearAnswers();
        doesAll();
        textStays();
        allOrNothing();
        isOneAct();
        stopsByErrorsAlone();
        sums();
        sumsUpToTheMost();
        faultsAndStops();
        latestStop();
        whatOfAStop();
        stopAnswers();
    }

    private void typesBehind() {
        about("Promise 7", "Types a character behind the text.");
        SnoopFilter x = new SnoopFilter();
        x.write(1, 12, 3);
        for (char sign : "r0.12".toCharArray()) {
            x.type(sign);
        }
        is("perform() of what was typed", x.perform(), 3);
        x.type(';');
        x.type('f');
        is("perform() of more", x.perform(), -107);
        x.type('1');
        is("perform() of all", x.perform(), 3);
        isNoAct(CALM, "type('r')", y -> y.type('r'));
        holds("it changes no state", Told.state(BUSY).equals(Told.state(BUSY.andThen(y -> y.type(';')))));
    }

    private void typesAnything() {
        about("Promise 7", "`character`: any character");
        SnoopFilter x = null;
        for (int sign = 0; sign <= 65535; sign++) {
            if (sign % 80 == 0) {
                x = new SnoopFilter();
            }
            is("type((char) " + sign + ")", x.type((char) sign), sign % 80 + 1);
        }
    }

    private void typeAnswers() {
        about("Promise 7", "Returns the length of the text then; FULL if it has 80 characters.");
        SnoopFilter x = new SnoopFilter();
        for (int length = 1; length <= 80; length++) {
            is("type() of " + length, x.type('f'), length);
            is("count(13)", x.count(13), length);
        }
        is("type() of 81", x.type('f'), FULL);
        is("type() of 81 again", x.type(';'), FULL);
        is("count(13)", x.count(13), 80);
        x.clearText();
        is("type() of an emptied text", x.type('f'), 1);
        Consumer<SnoopFilter> full = CALM.andThen(y -> Due.retype(y, "f1;".repeat(26) + "f2"));
        refused(full, "type('0') behind a full text", y -> y.type('0'), FULL);
        refused(full, "type(';') behind a full text", y -> y.type(';'), FULL);
    }

    private void clears() {
        about("Promise 8", "Empties the text.");
        SnoopFilter x = object(CALM);
        Due.retype(x, "r1.17");
        x.clearText();
        is("count(13)", x.count(13), 0);
        is("perform()", x.perform(), -100);
        x.type('f');
        is("what is typed then is the first", x.perform(), -101);
        x.type('1');
        is("nothing is left of the old text", x.perform(), 0);
        isNoAct(CALM, "clearText()", SnoopFilter::clearText);
        holds("it changes no state", Told.state(BUSY).equals(Told.state(BUSY.andThen(SnoopFilter::clearText))));
    }

    private void clearAnswers() {
        about("Promise 8", "Returns the length that it had.");
        for (int length = 0; length <= 80; length++) {
            SnoopFilter x = new SnoopFilter();
            Due.retype(x, "x".repeat(length));
            is("clearText() of " + length, x.clearText(), length);
            is("clearText() again", x.clearText(), 0);
        }
        SnoopFilter x = new SnoopFilter();
        Due.retype(x, "x".repeat(81));
        is("clearText() of a full text", x.clearText(), 80);
    }

    private void doesAll() {
        about("Promise 9", DOES_ALL);
        Consumer<SnoopFilter> program = x -> Due.perform(x, "w0.24=7;r2.17;r3.24;d1.0;w2.24=9999;f0;r1.3;f3;w1.11=0;f2");
        Consumer<SnoopFilter> calls = x -> {
            x.write(0, 24, 7);
            x.read(2, 17);
            x.read(3, 24);
            x.drop(1, 0);
            x.write(2, 24, 9999);
            x.forget(0);
            x.read(1, 3);
            x.forget(3);
            x.write(1, 11, 0);
            x.forget(2);
        };
        holds("it does as the calls do", Told.state(CALM.andThen(program)).equals(Told.state(CALM.andThen(calls))));
        Consumer<SnoopFilter> full = x -> x.set(1, 3);
        holds("with filters that grow full too", Told.state(full.andThen(x -> Due.perform(x, "w0.0=1;w0.1=2;r0.2;r1.0")))
                .equals(Told.state(full.andThen(x -> {
                    x.write(0, 0, 1);
                    x.write(0, 1, 2);
                    x.read(0, 2);
                    x.read(1, 0);
                }))));
        SnoopFilter order = new SnoopFilter();
        is("one after the other", Due.perform(order, "w0.5=1;r1.5;w0.5=2;r1.5;w0.5=4"), 3);
        is("the last value", order.line(5, 1), 4);
    }

    private void textStays() {
        about("Promise 9", DOES_ALL);
        SnoopFilter x = new SnoopFilter();
        for (String text : new String[] {"w0.5=9;r1.5", "d0.5;d0.5", "r0.256", ""}) {
            Due.retype(x, text);
            int first = x.perform();
            is("the length behind perform() of " + text, x.count(13), text.length());
            is("perform() of " + text + " again", x.perform(), first);
        }
    }

    private void allOrNothing() {
        about("Promise 9", DOES_ALL);
        for (String text : new String[] {"d2.9", "f1;d2.9", "w0.24=1;r1.24;d0.24;f1;d2.9", "d1.17;d1.17", "f1;d1.17;w0.1=1",
            "r0.1;" + "f0;".repeat(23) + "d0.1"}) {
            Consumer<SnoopFilter> performed = CALM.andThen(x -> Due.perform(x, text));
            is("perform() of " + text, object(CALM.andThen(x -> Due.retype(x, text))).perform(), NOT_POSSIBLE);
            holds("nothing of it is done", Told.state(CALM).equals(Told.state(performed)));
            is("states", object(performed).count(12), 2);
        }
        SnoopFilter x = object(CALM);
        is("what was stopped leaves no trace in what comes", Due.perform(x, "w1.17=9;d2.9"), NOT_POSSIBLE);
        is("perform() of the first alone", Due.perform(x, "r0.17"), 6);
    }

    private void isOneAct() {
        about("Promise 9", "This is one act.");
        for (String text : new String[] {"r0.1", "f3", "w0.24=1;r1.24;d0.24;f1", "f0;".repeat(26) + "f1"}) {
            Consumer<SnoopFilter> start = CALM.andThen(x -> Due.retype(x, text));
            isAct(start, "perform() of " + text, SnoopFilter::perform);
        }
        SnoopFilter x = object(CALM);
        for (int states = 3; states <= 6; states++) {
            Due.perform(x, "r0.1;r0.2;r0.3;r0.4");
            is("states behind perform() of four", x.count(12), Math.min(states, 4));
        }
    }

    private void stopsByErrorsAlone() {
        about("Promise 9", "What would return NONE does not stop it; what would return an error stops it.");
        SnoopFilter x = new SnoopFilter();
        is("f0 of nothing at the start", Due.perform(x, "f0;w0.3=4;r1.3"), 4);
        is("f3 of nothing at the end", Due.perform(x, "r1.3;f3"), 4);
        is("f3 of nothing alone", Due.perform(x, "f3"), 0);
        is("what was forgotten is nothing", Due.perform(x, "f0;f0;f0"), 0);
        is("forgot", x.core(0, 10), 1);
        is("no stop", x.stopped(0), NONE);
        is("d3.3 that is not held", Due.perform(x, "r1.3;d3.3"), NOT_POSSIBLE);
        is("d1.3 that is dropped by then", Due.perform(x, "d1.3;d1.3"), NOT_POSSIBLE);
        is("d1.3 that is forgotten by then", Due.perform(x, "f1;d1.3"), NOT_POSSIBLE);
        is("d1.3 that is taken by then", Due.perform(x, "w2.3=1;d1.3"), NOT_POSSIBLE);
        is("d1.3 whose place is another's by then", Due.perform(x, "r1.11;d1.3"), NOT_POSSIBLE);
        is("d1.3 that is held", Due.perform(x, "d1.3"), 0);
        is("d1.3 that is read by then", Due.perform(x, "r1.3;d1.3"), 4);
    }

    private void sums() {
        about("Promise 9", RETURNS_SUM);
        SnoopFilter x = new SnoopFilter();
        is("of none", Due.perform(x, "w0.1=5;f3;d0.1"), 0);
        is("of one", Due.perform(x, "r1.1"), 5);
        is("of hits and misses", Due.perform(x, "r1.1;r2.1;r1.1;w0.2=1000;r0.2;r1.2"), 2015);
        is("what drop() answers does not count", Due.perform(x, "w0.9=7;d0.9"), 0);
        is("what write() answers does not count", Due.perform(x, "w1.9=7;w2.9=8;w3.9=9"), 0);
        is("what forget() answers does not count", Due.perform(x, "f0;f1;f2;f3"), 0);
    }

    private void sumsUpToTheMost() {
        about("Promise 9", RETURNS_SUM);
        SnoopFilter x = new SnoopFilter();
        x.write(0, 0, 9999);
        is("16 reads", Due.perform(x, "r0.0" + ";r0.0".repeat(15)), 16 * 9999);
        is("its length", x.count(13), 79);
        x.write(0, 0, 0);
        is("16 reads of 0", x.perform(), 0);
        x.write(0, 0, 9998);
        is("a read behind 25 others", Due.perform(x, "f1;".repeat(25) + "r0.0"), 9998);
        is("a read before 25 others", Due.perform(x, "r0.0" + ";f1".repeat(25)), 9998);
    }

    private void faultsAndStops() {
        about("Promise 9", RETURNS_SUM);
        is("the empty text", new SnoopFilter().perform(), -100);
        for (int length = 1; length <= 80; length++) {
            // Each end but that behind a whole command is too early.
            String text = ("f0;".repeat(27)).substring(0, length);
            is("perform() of the first " + length, Due.perform(new SnoopFilter(), text), length % 3 == 2 ? 0 : -100 - length);
            String faulty = text.substring(0, length - 1) + "?";
            is("with a fault at " + (length - 1), Due.perform(new SnoopFilter(), faulty), -100 - (length - 1));
        }
        is("a fault is told, not the stop before it", Due.perform(new SnoopFilter(), "d0.0;d"), -106);
        is("a stop", Due.perform(new SnoopFilter(), "d0.0;d0.0"), NOT_POSSIBLE);
        refused(FRESH, "perform() of the empty text", SnoopFilter::perform, -100);
        refused(BUSY.andThen(x -> x.type(';')), "perform() with a fault", SnoopFilter::perform, -117);
    }

    private void latestStop() {
        about("Promise 10", "Tells of the latest stop of perform().");
        SnoopFilter x = object(CALM);
        Due.perform(x, "d0.0");
        is("stopped(0)", x.stopped(0), 0);
        Due.perform(x, "f1;r0.0;d3.0");
        is("stopped(0) of a later one", x.stopped(0), 2);
        Due.perform(x, "f1;d3.0");
        is("stopped(0) of the latest one", x.stopped(0), 1);
        Due.perform(x, "r0.0;r0.1;r0.2;x");
        is("a fault is no stop", x.stopped(0), 1);
        Due.perform(x, "r0.0;r0.1;r0.2");
        is("nor is what is not stopped", x.stopped(0), 1);
        x.drop(3, 0);
        is("nor is a call", x.stopped(0), 1);
        refused(BUSY.andThen(y -> Due.retype(y, "f3;")), "perform() with a fault behind a stop", SnoopFilter::perform, -103);
    }

    private void whatOfAStop() {
        about("Promise 10", "`what`: 0 for its number in the program, from 0, 1 for the error");
        for (int number = 0; number <= 25; number++) {
            SnoopFilter x = new SnoopFilter();
            is("perform()", Due.perform(x, "f0;".repeat(number) + "d0.0"), NOT_POSSIBLE);
            is("stopped(0)", x.stopped(0), number);
            is("stopped(1)", x.stopped(1), NOT_POSSIBLE);
        }
        SnoopFilter first = new SnoopFilter();
        Due.perform(first, "f0;d0.0;d0.1;d0.2");
        is("the first one stops it", first.stopped(0), 1);
        for (int outside : new int[] {LOWEST, -1, 2, HIGHEST}) {
            refused("stopped(" + outside + ")", x -> x.stopped(outside), BAD_VALUE);
        }
    }

    private void stopAnswers() {
        about("Promise 10", RETURNS_STOP);
        for (int what = 0; what <= 1; what++) {
            int told = what;
            refused(FRESH, "stopped(" + what + ") at first", x -> x.stopped(told), NONE);
            refused(CALM.andThen(x -> Due.perform(x, "f0;r1.0")), "stopped(" + what + ") as nothing was stopped",
                    x -> x.stopped(told), NONE);
            refused(CALM.andThen(x -> Due.perform(x, "d0.0;")), "stopped(" + what + ") behind a fault", x -> x.stopped(told), NONE);
        }
        is("stopped(0)", object(BUSY).stopped(0), 1);
        is("stopped(1)", object(BUSY).stopped(1), NOT_POSSIBLE);
        is("stopped(2) at first", new SnoopFilter().stopped(2), BAD_VALUE);
        is("stopped(-1) behind a stop", object(BUSY).stopped(-1), BAD_VALUE);
    }
}
