import java.util.LinkedHashMap;
import java.util.Map;
import java.util.function.Consumer;
import java.util.function.ToIntFunction;

/** HISTORY, and the promises 11 to 13. */
final class HistorySentences extends Sentences {
    private static final String SECTION = "HISTORY";
    private static final String AT_MOST_4 = "A history of at most 4 states is kept; when one more is recorded, the oldest one is"
            + " dropped; undo() removes and restores the latest one.";
    private static final String RECORDS = "Each call of a method that is described as an act, and returns no error and not NONE,"
            + " records the state that was before it.";
    private static final String STATE = "A state is everything but the text, the history, the snapshot and the latest stop.";

    /** A text that is stopped at its second command on a new object. */
    private static final String STOPPED = "f0;d0.0";

    HistorySentences(Due due, Document document) {
        super(due, document);
    }

    @Override
    void run() {
        upToFour();
        ringOfStates();
        fourAndOneMore();
        recordsActs();
        recordsNoOthers();
        recordsBehindRefusals();
        emptySnapshot();
        oneSnapshot();
        stateIsEverything();
        stateToItsEnds();
        stateIsNotTheText();
        stateIsNotTheHistory();
        stateIsNotTheSnapshot();
        stateIsNotTheStop();
        undoRestores();
        undoAnswers();
        keepTakes();
        keepAnswers();
        restoreRestores();
        restoreIsAnAct();
        restoreAnswers();
    }

    private void upToFour() {
        about(SECTION, AT_MOST_4);
        for (int acts = 0; acts <= 9; acts++) {
            SnoopFilter x = new SnoopFilter();
            for (int value = 1; value <= acts; value++) {
                x.write(0, 1, value);
            }
            int states = Math.min(acts, 4);
            is("states behind " + acts + " acts", x.count(12), states);
            for (int undone = 1; undone <= states; undone++) {
                is("undo() " + undone + " of " + acts, x.undo(), states - undone);
                is("the value behind it", x.line(1, 1), acts - undone);
                is("states behind it", x.count(12), states - undone);
            }
            is("undo() of no more", x.undo(), NONE);
            is("the value behind it", x.line(1, 1), acts - states);
        }
    }

    /** Wherever in the ring the latest state is, going on from there drops the oldest ones first. */
    private void ringOfStates() {
        about(SECTION, AT_MOST_4);
        for (int acts = 0; acts <= 6; acts++) {
            for (int undone = 0; undone <= 4; undone++) {
                SnoopFilter x = new SnoopFilter();
                int[] values = new int[12];
                int top = 0;
                for (int i = 0; i < acts; i++) {
                    values[++top] = 100 + i;
                    x.write(0, 1, values[top]);
                }
                int left = Math.min(acts, 4);
                for (int i = 0; i < undone && left > 0; i++) {
                    top--;
                    is("undo()", x.undo(), --left);
                }
                for (int i = 0; i < 3; i++) {
                    values[++top] = 200 + i;
                    x.write(0, 1, values[top]);
                    left = Math.min(left + 1, 4);
                }
                while (left > 0) {
                    is("undo() at last", x.undo(), --left);
                    is("value", x.line(1, 1), values[--top]);
                }
            }
        }
    }

    private void fourAndOneMore() {
        about(SECTION, AT_MOST_4);
        Consumer<SnoopFilter> first = x -> x.write(0, 0, 3);
        Consumer<SnoopFilter> four = first.andThen(x -> x.set(0, 1)).andThen(x -> x.read(1, 0)).andThen(x -> x.set(1, 5));
        Consumer<SnoopFilter> undone = four.andThen(HistorySentences::undoFour);
        holds("four acts are all undone", Told.state(FRESH).equals(Told.state(undone)));
        Consumer<SnoopFilter> five = four.andThen(x -> x.forget(0)).andThen(HistorySentences::undoFour);
        holds("of five acts, the first one stays", Told.state(first).equals(Told.state(five)));
        is("states then", object(five).count(12), 0);
    }

    private static void undoFour(SnoopFilter x) {
        for (int i = 0; i < 4; i++) {
            x.undo();
        }
    }

    private static Map<String, ToIntFunction<SnoopFilter>> acts() {
        Map<String, ToIntFunction<SnoopFilter>> acts = new LinkedHashMap<>();
        acts.put("read(0, 24)", x -> x.read(0, 24));
        acts.put("read(1, 0), a hit", x -> x.read(1, 0));
        acts.put("write(0, 0, 5)", x -> x.write(0, 0, 5));
        acts.put("write(1, 17, 6), as it was", x -> x.write(1, 17, 6));
        acts.put("drop(1, 17)", x -> x.drop(1, 17));
        acts.put("drop(1, 0)", x -> x.drop(1, 0));
        acts.put("forget(1)", x -> x.forget(1));
        acts.put("set(0, 1)", x -> x.set(0, 1));
        acts.put("set(1, 24)", x -> x.set(1, 24));
        acts.put("perform()", x -> Due.perform(x, "r0.17;w2.8=9;d1.0;f1"));
        acts.put("perform() of nothing but NONE", x -> Due.perform(x, "f3"));
        return acts;
    }

    private void recordsActs() {
        about(SECTION, RECORDS);
        acts().forEach((call, act) -> {
            Consumer<SnoopFilter> done = CALM.andThen(act::applyAsInt);
            is("states behind " + call, object(done).count(12), 3);
            holds(call + " is undone", Told.state(CALM).equals(Told.state(done.andThen(SnoopFilter::undo))));
        });
        Consumer<SnoopFilter> kept = CALM.andThen(SnoopFilter::keep).andThen(x -> x.drop(1, 0));
        is("states behind restore()", object(kept.andThen(SnoopFilter::restore)).count(12), 4);
        holds("restore() is undone", Told.state(kept).equals(
                Told.state(kept.andThen(SnoopFilter::restore).andThen(SnoopFilter::undo))));
    }

    private void recordsNoOthers() {
        about(SECTION, RECORDS);
        isNoAct(CALM, "type('r')", x -> x.type('r'));
        isNoAct(CALM, "clearText()", SnoopFilter::clearText);
        isNoAct(CALM, "stopped(0)", x -> x.stopped(0));
        isNoAct(CALM, "keep()", SnoopFilter::keep);
        isNoAct(CALM, "core(0, 0)", x -> x.core(0, 0));
        isNoAct(CALM, "held(1, 0, 0)", x -> x.held(1, 0, 0));
        isNoAct(CALM, "counter(1, 0)", x -> x.counter(1, 0));
        isNoAct(CALM, "bit(1, 0)", x -> x.bit(1, 0));
        isNoAct(CALM, "line(0, 1)", x -> x.line(0, 1));
        isNoAct(CALM, "reason(1, 0)", x -> x.reason(1, 0));
        isNoAct(CALM, "cost(0, 17, true, 0)", x -> x.cost(0, 17, true, 0));
        isNoAct(CALM, "cost(0, 17, false, 3)", x -> x.cost(0, 17, false, 3));
        isNoAct(CALM, "vain(1)", x -> x.vain(1));
        isNoAct(CALM, "worst()", SnoopFilter::worst);
        isNoAct(CALM, "count(12)", x -> x.count(12));
        isNoAct(FRESH, "undo()", SnoopFilter::undo);
    }

    private void recordsBehindRefusals() {
        about(SECTION, RECORDS);
        isNoAct(CALM, "read(4, 0)", x -> x.read(4, 0));
        isNoAct(CALM, "write(0, 0, 10000)", x -> x.write(0, 0, 10000));
        isNoAct(CALM, "drop(0, 0)", x -> x.drop(0, 0));
        isNoAct(CALM, "forget(0), NONE", x -> x.forget(0));
        isNoAct(CALM, "set(0, 3), NONE", x -> x.set(0, 3));
        isNoAct(CALM, "set(1, 25)", x -> x.set(1, 25));
        isNoAct(CALM, "perform() with a fault", x -> Due.perform(x, "f0;"));
        isNoAct(CALM, "perform() that is stopped", x -> Due.perform(x, STOPPED));
        isNoAct(CALM, "restore(), NONE", SnoopFilter::restore);
    }

    private void emptySnapshot() {
        about(SECTION, "There is one snapshot, empty at first.");
        refused(FRESH, "restore() at first", SnoopFilter::restore, NONE);
        refused(CALM, "restore() behind acts", SnoopFilter::restore, NONE);
    }

    private void oneSnapshot() {
        about(SECTION, "There is one snapshot, empty at first.");
        SnoopFilter x = new SnoopFilter();
        for (int value = 1; value <= 3; value++) {
            x.write(0, 1, value);
            x.keep();
        }
        x.write(0, 1, 4);
        for (int round = 0; round < 3; round++) {
            x.restore();
            is("the latest snapshot alone", x.line(1, 1), 3);
        }
    }

    private void stateIsEverything() {
        about(SECTION, STATE);
        Consumer<SnoopFilter> later = BUSY.andThen(HistorySentences::changeMuch);
        holds("much is changed", !Told.state(BUSY).equals(Told.state(later)));
        holds("undo() brings all of it back", Told.state(BUSY).equals(Told.state(later.andThen(HistorySentences::undoFour))));
        Consumer<SnoopFilter> kept = BUSY.andThen(SnoopFilter::keep).andThen(HistorySentences::changeMuch);
        holds("restore() brings all of it back", Told.state(BUSY).equals(Told.state(kept.andThen(SnoopFilter::restore))));
        // What sticks is told by dropping alone.
        Consumer<SnoopFilter> drops = x -> x.drop(0, 29);
        holds("so are the counters that stick", Told.state(BUSY.andThen(drops)).equals(
                Told.state(later.andThen(HistorySentences::undoFour).andThen(drops))));
    }

    /** The first and the last line, place, counter and region, and a last counter that sticks. */
    private void stateToItsEnds() {
        about(SECTION, STATE);
        Consumer<SnoopFilter> start = x -> {
            x.set(0, 1);
            for (int line : new int[] {0, 255}) {
                x.write(2, line, 5);
                x.drop(2, line);
                x.write(2, line, 6);
            }
            // 6 and 23 share the counter 23; 13 and 0 share the counter 0.
            for (int line : new int[] {6, 23, 13, 0}) {
                x.read(3, line);
            }
            x.write(2, 0, 7);
        };
        SnoopFilter x = object(start);
        is("counters that stick", x.core(3, 3), 2);
        is("dirty ones", x.core(2, 1), 2);
        Consumer<SnoopFilter> change = y -> {
            y.forget(3);
            y.forget(2);
        };
        Consumer<SnoopFilter> drops = y -> {
            y.drop(3, 6);
            y.drop(3, 23);
            y.drop(3, 13);
        };
        Consumer<SnoopFilter> undone = start.andThen(change).andThen(SnoopFilter::undo).andThen(SnoopFilter::undo);
        Consumer<SnoopFilter> restored = start.andThen(SnoopFilter::keep).andThen(change).andThen(SnoopFilter::restore);
        holds("undo() brings it back", Told.state(start).equals(Told.state(undone)));
        holds("restore() brings it back", Told.state(start).equals(Told.state(restored)));
        holds("undo() brings back what sticks", Told.state(start.andThen(drops)).equals(Told.state(undone.andThen(drops))));
        holds("restore() brings back what sticks", Told.state(start.andThen(drops)).equals(Told.state(restored.andThen(drops))));
    }

    /** Four acts, which change each part of a state. */
    private static void changeMuch(SnoopFilter x) {
        x.set(0, 5);
        x.set(1, 3);
        x.forget(0);
        Due.perform(x, "w0.250=3;r1.250;r1.0;r2.11;w3.11=4;r3.11;r1.3;r1.11");
    }

    private void stateIsNotTheText() {
        about(SECTION, STATE);
        SnoopFilter x = object(CALM);
        Due.retype(x, "f1");
        x.keep();
        x.type(';');
        x.read(0, 0);
        x.type('f');
        x.undo();
        is("the text's length behind undo()", x.count(13), 4);
        is("perform() behind undo()", x.perform(), -104);
        x.type('0');
        x.restore();
        is("the text's length behind restore()", x.count(13), 5);
        is("perform() behind restore()", x.perform(), 0);
        is("it is the text as it was typed", x.core(1, 10), 1);
        x.clearText();
        x.undo();
        is("the empty text stays", x.count(13), 0);
    }

    private void stateIsNotTheHistory() {
        about(SECTION, STATE);
        SnoopFilter x = object(CALM);
        x.keep();
        x.read(0, 1);
        is("states", x.count(12), 3);
        x.restore();
        is("restore() brings back no history", x.count(12), 4);
        is("undo() of restore()", x.undo(), 3);
        is("undo() of read()", x.undo(), 2);
        is("undo() of what was before keep()", x.undo(), 1);
    }

    private void stateIsNotTheSnapshot() {
        about(SECTION, STATE);
        SnoopFilter x = object(CALM);
        x.keep();
        x.read(0, 1);
        x.undo();
        x.undo();
        x.undo();
        is("lines of none", x.count(0), 0);
        is("undo() does not undo keep()", x.restore(), 2);
        x.write(2, 9, 1);
        x.keep();
        x.undo();
        is("keep() anew stays too", x.restore(), 3);
        x.restore();
        is("and behind restore()", x.restore(), 3);
    }

    private void stateIsNotTheStop() {
        about(SECTION, STATE);
        SnoopFilter x = object(CALM);
        x.keep();
        x.read(0, 1);
        Due.perform(x, STOPPED);
        x.undo();
        is("stopped(0) behind undo()", x.stopped(0), 1);
        x.restore();
        is("stopped(0) behind restore()", x.stopped(0), 1);
        is("stopped(1) behind restore()", x.stopped(1), NOT_POSSIBLE);
    }

    private void undoRestores() {
        about("Promise 11", "Removes and restores the latest state of the history.");
        acts().forEach((call, act) -> holds("the state before " + call, Told.everything(CALM.andThen(SnoopFilter::clearText)).equals(
                Told.everything(CALM.andThen(act::applyAsInt).andThen(SnoopFilter::undo).andThen(SnoopFilter::clearText)))));
    }

    private void undoAnswers() {
        about("Promise 11", "Returns the number of states that are left; NONE if the history is empty.");
        refused(FRESH, "undo() of none", SnoopFilter::undo, NONE);
        refused(CALM.andThen(HistorySentences::undoFour), "undo() of no more", SnoopFilter::undo, NONE);
        SnoopFilter x = object(BUSY);
        is("undo() of 4", x.undo(), 3);
        is("undo() of 3", x.undo(), 2);
        is("undo() of 2", x.undo(), 1);
        is("undo() of 1", x.undo(), 0);
        is("undo() of 0", x.undo(), NONE);
        x.read(0, 0);
        is("undo() of 1 again", x.undo(), 0);
    }

    private void keepTakes() {
        about("Promise 12", "Takes a snapshot of the state, in place of the one that was.");
        Consumer<SnoopFilter> kept = CALM.andThen(SnoopFilter::keep).andThen(HistorySentences::changeMuch);
        holds("the state as it was kept", Told.state(CALM).equals(Told.state(kept.andThen(SnoopFilter::restore))));
        holds("keep() changes no state", Told.state(BUSY).equals(Told.state(BUSY.andThen(SnoopFilter::keep))));
        Consumer<SnoopFilter> anew = kept.andThen(SnoopFilter::keep).andThen(x -> x.forget(1));
        holds("the state that was kept anew", Told.state(kept).equals(Told.state(anew.andThen(SnoopFilter::restore))));
        isNoAct(CALM, "keep()", SnoopFilter::keep);
    }

    /** Fills all caches: core after core, or as far as the number of lines tells. */
    private static SnoopFilter holding(int lines) {
        SnoopFilter x = new SnoopFilter();
        for (int i = 0; i < lines; i++) {
            x.read(i / 8, i % 8);
        }
        return x;
    }

    private void keepAnswers() {
        about("Promise 12", "Returns how many lines are held by all cores.");
        for (int lines = 0; lines <= 32; lines++) {
            is("keep() of " + lines, holding(lines).keep(), lines);
        }
        SnoopFilter x = holding(32);
        x.write(0, 0, 1);
        is("keep() of those that are left", x.keep(), 29);
        is("keep() again", x.keep(), 29);
    }

    private void restoreRestores() {
        about("Promise 13", "Restores the state of the snapshot, which stays.");
        Consumer<SnoopFilter> restored = BUSY.andThen(SnoopFilter::keep).andThen(HistorySentences::changeMuch)
                .andThen(SnoopFilter::restore);
        holds("the state as it was kept", Told.state(BUSY).equals(Told.state(restored)));
        Consumer<SnoopFilter> again = restored.andThen(HistorySentences::changeMuch).andThen(SnoopFilter::restore);
        holds("the snapshot stays", Told.state(BUSY).equals(Told.state(again)));
        SnoopFilter x = new SnoopFilter();
        x.keep();
        x.write(0, 1, 2);
        is("restore() of an empty state", x.restore(), 0);
        x.write(0, 1, 3);
        is("what is done behind it is not in the snapshot", x.restore(), 0);
        is("its value", x.line(1, 1), 0);
    }

    private void restoreIsAnAct() {
        about("Promise 13", "This is an act.");
        isAct(FRESH.andThen(SnoopFilter::keep), "restore() of the same state", SnoopFilter::restore);
        isAct(x -> {
            x.read(1, 0);
            x.keep();
            x.write(1, 0, 3);
        }, "restore()", SnoopFilter::restore);
        SnoopFilter x = object(BUSY);
        x.restore();
        is("states of a full history", x.count(12), 4);
        x.undo();
        is("the states that are left", x.count(12), 3);
    }

    private void restoreAnswers() {
        about("Promise 13", "Returns how many lines are held by all cores then; NONE if there is no snapshot.");
        refused(FRESH, "restore() at first", SnoopFilter::restore, NONE);
        refused(CALM, "restore() without keep()", SnoopFilter::restore, NONE);
        for (int lines = 0; lines <= 32; lines++) {
            SnoopFilter x = holding(lines);
            x.keep();
            x.forget(0);
            x.read(3, 100);
            is("restore() of " + lines, x.restore(), lines);
        }
    }
}
