import java.util.ArrayList;
import java.util.List;
import java.util.function.Consumer;
import java.util.function.ToIntFunction;

/**
 * All that an object tells behind a script of calls. There are more questions than an object may be asked, so
 * they are put in portions, each to an object of its own that the script has been run on.
 */
final class Told {
    private static final int PORTION = 320;
    private static final List<ToIntFunction<SnoopFilter>> OF_STATE = ofState();
    private static final List<ToIntFunction<SnoopFilter>> OF_THE_REST = List.of(
            x -> x.count(12), x -> x.count(13), x -> x.stopped(0), x -> x.stopped(1));

    private Told() {
    }

    private static List<ToIntFunction<SnoopFilter>> ofState() {
        List<ToIntFunction<SnoopFilter>> all = new ArrayList<>();
        for (int core = 0; core < 4; core++) {
            addOfCore(all, core);
        }
        for (int line = 0; line < 256; line++) {
            for (int what = 0; what < 4; what++) {
                int number = line;
                int told = what;
                all.add(x -> x.line(number, told));
            }
        }
        for (int what = 0; what <= 11; what++) {
            int told = what;
            all.add(x -> x.count(told));
        }
        all.add(SnoopFilter::worst);
        return all;
    }

    private static void addOfCore(List<ToIntFunction<SnoopFilter>> all, int core) {
        for (int what = 0; what <= 10; what++) {
            int told = what;
            all.add(x -> x.core(core, told));
        }
        for (int what = 0; what < 24; what++) {
            int told = what;
            all.add(x -> x.held(core, told / 3, told % 3));
            all.add(x -> x.counter(core, told));
        }
        for (int what = 0; what < 16; what++) {
            int region = what;
            all.add(x -> x.bit(core, region));
        }
    }

    private static String answers(Consumer<SnoopFilter> script, List<ToIntFunction<SnoopFilter>> questions) {
        StringBuilder all = new StringBuilder();
        for (int first = 0; first < questions.size(); first += PORTION) {
            SnoopFilter x = new SnoopFilter();
            script.accept(x);
            for (ToIntFunction<SnoopFilter> question : questions.subList(first, Math.min(first + PORTION, questions.size()))) {
                all.append(question.applyAsInt(x)).append(' ');
            }
        }
        return all.toString();
    }

    /** The state alone: not the text, the history, the snapshot and the latest stop. */
    static String state(Consumer<SnoopFilter> script) {
        return answers(script, OF_STATE);
    }

    /** Everything: the history, the snapshot, the text and what sticks are told by what comes of using them. */
    static String everything(Consumer<SnoopFilter> script) {
        StringBuilder all = new StringBuilder(answers(script, OF_STATE)).append(answers(script, OF_THE_REST));
        for (int undone = 1; undone <= 5; undone++) {
            int times = undone;
            all.append("undone ").append(times).append(": ").append(state(script.andThen(x -> undo(x, times))));
        }
        all.append("restored: ").append(state(script.andThen(SnoopFilter::restore)));
        all.append("performed: ").append(state(script.andThen(SnoopFilter::perform)));
        all.append(answers(script.andThen(SnoopFilter::perform), OF_THE_REST));
        all.append("dropped: ").append(state(script.andThen(Told::dropAll)));
        return all.toString();
    }

    private static void undo(SnoopFilter x, int times) {
        for (int i = 0; i < times; i++) {
            x.undo();
        }
    }

    private static void dropAll(SnoopFilter x) {
        for (int core = 0; core < 4; core++) {
            for (int place = 0; place < 8; place++) {
                int line = x.held(core, place, 0);
                if (line >= 0) {
                    x.drop(core, line);
                }
            }
        }
    }
}
