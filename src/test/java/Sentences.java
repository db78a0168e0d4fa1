import java.util.HashMap;
import java.util.List;
import java.util.Map;
import java.util.function.Consumer;
import java.util.function.ToIntFunction;

/** What the tests of the document's sentences share: each check tells the sentence that it stands for. */
abstract class Sentences {
    static final int UNKNOWN = -1;
    static final int BAD_VALUE = -2;
    static final int FULL = -3;
    static final int NOT_POSSIBLE = -4;
    static final int NONE = -5;
    static final int LOWEST = Integer.MIN_VALUE;
    static final int HIGHEST = Integer.MAX_VALUE;

    static final Consumer<SnoopFilter> FRESH = x -> { };
    static final Consumer<SnoopFilter> CALM = Sentences::makeCalm;
    static final Consumer<SnoopFilter> BUSY = Sentences::makeBusy;

    private static final Map<Consumer<SnoopFilter>, String> EVERYTHING_OF = new HashMap<>();

    private final Due due;
    private final Document document;
    private String label = "";

    /** A call with one of its arguments left open. */
    interface CallOf {
        int on(SnoopFilter x, int argument);
    }

    Sentences(Due due, Document document) {
        this.due = due;
        this.document = document;
    }

    abstract void run();

    /** Two states in the history; core 1 holds 0 and 17, so that it is asked in vain for 24. */
    private static void makeCalm(SnoopFilter x) {
        x.read(1, 0);
        x.write(1, 17, 6);
    }

    /** A full history, a snapshot, a stop, a text, dirty lines, a stuck counter, snoops in vain, and a filter that forgot. */
    private static void makeBusy(SnoopFilter x) {
        x.set(0, 1);
        x.set(1, 9);
        x.read(1, 0);
        x.read(1, 17);
        x.write(0, 24, 7);
        x.read(0, 29);
        x.keep();
        x.write(2, 3, 40);
        x.read(3, 3);
        Due.perform(x, "r0.7;d3.9");
        x.forget(2);
        x.drop(1, 17);
        x.write(3, 77, 9999);
        x.read(0, 29);
        Due.retype(x, "r3.3;w1.200=1;f0");
    }

    static SnoopFilter object(Consumer<SnoopFilter> script) {
        SnoopFilter x = new SnoopFilter();
        script.accept(x);
        return x;
    }

    /** Says which sentence the checks that follow stand for; it has to stand in the document word by word. */
    final void about(String section, String sentence) {
        label = section + ", \"" + sentence + "\": ";
        due.holds(label + "stands in the document", document.names(section, sentence));
    }

    final void is(String call, long got, long want) {
        due.is(label + call, got, want);
    }

    final void holds(String claim, boolean isTrue) {
        due.holds(label + claim, isTrue);
    }

    private static String everythingOf(Consumer<SnoopFilter> start) {
        return EVERYTHING_OF.computeIfAbsent(start, Told::everything);
    }

    /** The call answers the error, or NONE, and changes nothing. */
    final void refused(Consumer<SnoopFilter> start, String call, ToIntFunction<SnoopFilter> of, int want) {
        is(call, of.applyAsInt(object(start)), want);
        holds(call + " changes nothing", everythingOf(start).equals(Told.everything(start.andThen(of::applyAsInt))));
    }

    /** As refused(), on a new object and on one in which much has been. */
    final void refused(String call, ToIntFunction<SnoopFilter> of, int want) {
        refused(FRESH, call, of, want);
        refused(BUSY, call, of, want);
    }

    /** What is just outside of a range is refused with the error, and changes nothing; what is just inside is not. */
    final void range(String call, CallOf of, int lowest, int highest, int error) {
        for (int outside : new int[] {LOWEST, lowest - 1, highest + 1, HIGHEST}) {
            refused(call.replace("_", "" + outside), x -> of.on(x, outside), error);
        }
        for (int inside : new int[] {lowest, highest}) {
            for (Consumer<SnoopFilter> start : List.of(FRESH, BUSY)) {
                int got = of.on(object(start), inside);
                holds(call.replace("_", "" + inside) + " answered " + got, got != UNKNOWN && got != BAD_VALUE);
            }
        }
    }

    /** The call records one state, the one that was before it. The start leaves room in the history. */
    final void isAct(Consumer<SnoopFilter> start, String call, ToIntFunction<SnoopFilter> of) {
        SnoopFilter x = object(start);
        int states = x.count(12);
        int answer = of.applyAsInt(x);
        holds(call + " answered " + answer, answer >= 0);
        is("states behind " + call, x.count(12), states + 1);
        holds(call + " is undone", everythingOf(start).equals(
                Told.everything(start.andThen(of::applyAsInt).andThen(SnoopFilter::undo))));
    }

    /** The call records nothing. */
    final void isNoAct(Consumer<SnoopFilter> start, String call, ToIntFunction<SnoopFilter> of) {
        SnoopFilter x = object(start);
        int states = x.count(12);
        of.applyAsInt(x);
        is("states behind " + call, x.count(12), states);
    }

    static boolean in(int number, int lowest, int highest) {
        return number >= lowest && number <= highest;
    }
}
