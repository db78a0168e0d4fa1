import java.util.function.Consumer;

/** The promises 1 to 6. */
final class ActsSentences extends Sentences {
    private static final String IS_ACT = "This is an act.";
    private static final String CORE = "`core`: 0 to 3";
    private static final String LINE = "`line`: 0 to 255";

    ActsSentences(Due due, Document document) {
        super(due, document);
    }

    @Override
    void run() {
        newObject();
        newObjectBesideAnother();
        readReads();
        readIsAnAct();
        readArguments();
        readAnswers();
        writeWrites();
        writeIsAnAct();
        writeArguments();
        writeAnswers();
        dropDrops();
        dropIsAnAct();
        dropArguments();
        dropAnswers();
        forgetForgets();
        forgetIsAnAct();
        forgetArguments();
        forgetAnswers();
        setSets();
        setIsAnAct();
        setArguments();
        setAnswers();
    }

    private void newObject() {
        about("Promise 1", "Creates a memory with values 0, and empty caches and filters.");
        SnoopFilter x = new SnoopFilter();
        for (int core = 0; core < 4; core++) {
            for (int what = 0; what <= 10; what++) {
                is("core(" + core + ", " + what + ")", x.core(core, what), 0);
            }
            for (int place = 0; place < 8; place++) {
                is("held(" + core + ", " + place + ", 0)", x.held(core, place, 0), NONE);
            }
            for (int counter = 0; counter < 24; counter++) {
                is("counter(" + core + ", " + counter + ")", x.counter(core, counter), 0);
            }
            for (int region = 0; region < 16; region++) {
                is("bit(" + core + ", " + region + ")", x.bit(core, region), 0);
            }
        }
        for (int what = 0; what <= 13; what++) {
            is("count(" + what + ")", x.count(what), what == 10 ? 3 : what == 11 ? 20 : 0);
        }
        SnoopFilter y = new SnoopFilter();
        for (int line = 0; line <= 255; line++) {
            is("line(" + line + ", 0)", y.line(line, 0), 0);
        }
        is("worst()", y.worst(), NONE);
        is("undo()", y.undo(), NONE);
        is("restore()", y.restore(), NONE);
        is("stopped(0)", y.stopped(0), NONE);
        is("perform()", y.perform(), -100);
    }

    private void newObjectBesideAnother() {
        about("Promise 1", "Creates a memory with values 0, and empty caches and filters.");
        String fresh = Told.everything(FRESH);
        SnoopFilter other = object(BUSY);
        holds("another object changes nothing in it", fresh.equals(Told.everything(FRESH)));
        SnoopFilter x = new SnoopFilter();
        x.write(1, 0, 77);
        is("and it changes nothing in another", other.line(0, 1), 0);
    }

    private void readReads() {
        about("Promise 2", "A core reads a line.");
        SnoopFilter x = new SnoopFilter();
        is("read(0, 0)", x.read(0, 0), 0);
        is("its line", x.held(0, 0, 0), 0);
        is("read(3, 255)", x.read(3, 255), 0);
        is("its line", x.held(3, 7, 0), 255);
        is("misses", x.count(8), 2);
        is("lines", x.count(0), 2);
    }

    private void readIsAnAct() {
        about("Promise 2", IS_ACT);
        isAct(FRESH, "read(0, 0)", x -> x.read(0, 0));
        isAct(CALM, "read(2, 17)", x -> x.read(2, 17));
        isAct(CALM, "read(0, 24) in vain", x -> x.read(0, 24));
        isAct(CALM, "read(1, 0), a hit", x -> x.read(1, 0));
        isAct(CALM, "read(1, 25) in place of a dirty line", x -> x.read(1, 25));
        isAct(CALM, "read(0, 3) of an empty cache", x -> x.read(0, 3));
    }

    private void readArguments() {
        about("Promise 2", CORE);
        range("read(_, 17)", (x, core) -> x.read(core, 17), 0, 3, UNKNOWN);
        about("Promise 2", LINE);
        range("read(0, _)", (x, line) -> x.read(0, line), 0, 255, UNKNOWN);
    }

    private void readAnswers() {
        about("Promise 2", "Returns its value; UNKNOWN (core or line).");
        for (int value : new int[] {0, 1, 9998, 9999}) {
            SnoopFilter x = new SnoopFilter();
            x.write(1, 255, value);
            is("read(1, 255), its own dirty line", x.read(1, 255), value);
            is("read(0, 255), another's dirty line", x.read(0, 255), value);
            is("read(0, 255), its own clean line", x.read(0, 255), value);
            is("read(2, 255), another's clean line", x.read(2, 255), value);
            x.forget(0);
            x.forget(1);
            x.forget(2);
            is("read(3, 255) from the memory", x.read(3, 255), value);
        }
        is("read(4, 0)", new SnoopFilter().read(4, 0), UNKNOWN);
        is("read(0, 256)", new SnoopFilter().read(0, 256), UNKNOWN);
        is("read(4, 256)", new SnoopFilter().read(4, 256), UNKNOWN);
    }

    private void writeWrites() {
        about("Promise 3", "A core writes a line.");
        SnoopFilter x = new SnoopFilter();
        x.write(3, 255, 9999);
        is("its line", x.held(3, 7, 0), 255);
        is("its value", x.held(3, 7, 1), 9999);
        is("dirty", x.held(3, 7, 2), 1);
        x.write(0, 0, 0);
        is("its line", x.held(0, 0, 0), 0);
        is("dirty with 0", x.held(0, 0, 2), 1);
        is("writes", x.count(9), 2);
        is("memory", x.line(255, 0), 0);
    }

    private void writeIsAnAct() {
        about("Promise 3", IS_ACT);
        isAct(FRESH, "write(0, 0, 0)", x -> x.write(0, 0, 0));
        isAct(CALM, "write(2, 17, 9)", x -> x.write(2, 17, 9));
        isAct(CALM, "write(0, 24, 9) in vain", x -> x.write(0, 24, 9));
        isAct(CALM, "write(1, 17, 6), as it was", x -> x.write(1, 17, 6));
        isAct(CALM, "write(1, 0, 0) of a clean line", x -> x.write(1, 0, 0));
        isAct(CALM, "write(1, 25, 1) in place of a dirty line", x -> x.write(1, 25, 1));
    }

    private void writeArguments() {
        about("Promise 3", CORE);
        range("write(_, 17, 5)", (x, core) -> x.write(core, 17, 5), 0, 3, UNKNOWN);
        about("Promise 3", LINE);
        range("write(0, _, 5)", (x, line) -> x.write(0, line, 5), 0, 255, UNKNOWN);
        about("Promise 3", "`value`: 0 to 9999");
        range("write(0, 17, _)", (x, value) -> x.write(0, 17, value), 0, 9999, BAD_VALUE);
        range("write(1, 0, _)", (x, value) -> x.write(1, 0, value), 0, 9999, BAD_VALUE);
    }

    private void writeAnswers() {
        about("Promise 3", "Returns how many other cores are snooped; UNKNOWN (core or line); BAD_VALUE.");
        for (int others = 0; others <= 3; others++) {
            SnoopFilter x = new SnoopFilter();
            for (int core = 1; core <= others; core++) {
                x.read(core, 40);
            }
            is("write(0, 40, 1) of " + others, x.write(0, 40, 1), others);
            is("write(0, 40, 2) of a dirty line", x.write(0, 40, 2), 0);
            is("write(1, 40, 3) of one", x.write(1, 40, 3), 1);
        }
        SnoopFilter vain = object(CALM);
        is("write(0, 24, 1) in vain", vain.write(0, 24, 1), 1);
        is("write(2, 24, 1): one in vain, one that holds it", vain.write(2, 24, 1), 2);
        SnoopFilter clean = new SnoopFilter();
        clean.read(0, 40);
        is("write(0, 40, 1) of a clean line that is its own", clean.write(0, 40, 1), 0);
        is("write(4, 0, 10000)", new SnoopFilter().write(4, 0, 10000), UNKNOWN);
        is("write(0, 256, -1)", new SnoopFilter().write(0, 256, -1), UNKNOWN);
        is("write(0, 0, -1)", new SnoopFilter().write(0, 0, -1), BAD_VALUE);
    }

    private void dropDrops() {
        about("Promise 4", "A core drops a line; a dirty one is written back first.");
        SnoopFilter x = new SnoopFilter();
        x.write(0, 248, 9999);
        x.write(0, 7, 3);
        x.read(1, 7);
        x.drop(0, 248);
        is("memory of a dirty one", x.line(248, 0), 9999);
        is("its place", x.held(0, 0, 0), NONE);
        is("the other line stays", x.held(0, 7, 0), 7);
        is("written back", x.count(5), 2);
        x.drop(0, 7);
        is("a clean one is not written back", x.count(5), 2);
        is("lines of the core", x.core(0, 0), 0);
        is("another core keeps it", x.held(1, 7, 1), 3);
        x.write(2, 1, 5);
        x.drop(2, 1);
        x.write(2, 1, 0);
        x.drop(2, 1);
        is("0 is written back too", x.line(1, 0), 0);
        is("written back then", x.count(5), 4);
    }

    private void dropIsAnAct() {
        about("Promise 4", IS_ACT);
        isAct(CALM, "drop(1, 17), dirty", x -> x.drop(1, 17));
        isAct(CALM, "drop(1, 0), clean", x -> x.drop(1, 0));
    }

    private void dropArguments() {
        Consumer<SnoopFilter> held = x -> {
            x.read(0, 0);
            x.read(3, 0);
            x.read(0, 255);
        };
        about("Promise 4", CORE);
        range("drop(_, 0)", (x, core) -> x.drop(core, 0), 0, 3, UNKNOWN);
        is("drop(0, 0)", object(held).drop(0, 0), 0);
        is("drop(3, 0)", object(held).drop(3, 0), 0);
        about("Promise 4", LINE);
        range("drop(0, _)", (x, line) -> x.drop(0, line), 0, 255, UNKNOWN);
        is("drop(0, 255)", object(held).drop(0, 255), 0);
    }

    private void dropAnswers() {
        about("Promise 4", "Returns whether it was dirty (1, otherwise 0); UNKNOWN (core or line); NOT_POSSIBLE if the core does"
                + " not hold it.");
        is("drop(1, 17), dirty", object(CALM).drop(1, 17), 1);
        is("drop(1, 0), clean", object(CALM).drop(1, 0), 0);
        SnoopFilter saved = object(CALM);
        saved.read(0, 17);
        is("drop(1, 17), clean by now", saved.drop(1, 17), 0);
        refused(FRESH, "drop(0, 0) of an empty cache", x -> x.drop(0, 0), NOT_POSSIBLE);
        refused(CALM, "drop(0, 0) that another core holds", x -> x.drop(0, 0), NOT_POSSIBLE);
        refused(CALM, "drop(1, 8) at the place of another line", x -> x.drop(1, 8), NOT_POSSIBLE);
        refused(CALM, "drop(1, 24) that its filter may have", x -> x.drop(1, 24), NOT_POSSIBLE);
        refused(CALM.andThen(x -> x.drop(1, 0)), "drop(1, 0) again", x -> x.drop(1, 0), NOT_POSSIBLE);
        is("drop(4, 0)", object(CALM).drop(4, 0), UNKNOWN);
        is("drop(1, 256)", object(CALM).drop(1, 256), UNKNOWN);
    }

    private void forgetForgets() {
        about("Promise 5", "A core forgets: all lines that it holds are dropped (dirty ones are written back first), and all"
                + " counters and bits of its filter are 0.");
        SnoopFilter x = new SnoopFilter();
        x.set(0, 1);
        for (int line = 0; line < 8; line++) {
            x.write(2, 33 * line, 100 + line);
        }
        x.read(1, 0);
        x.read(0, 33);
        is("dirty ones before", x.core(2, 1), 6);
        x.forget(2);
        for (int what = 0; what <= 4; what++) {
            is("core(2, " + what + ")", x.core(2, what), 0);
        }
        for (int line = 0; line < 8; line++) {
            is("memory of " + 33 * line, x.line(33 * line, 0), 100 + line);
        }
        is("written back", x.count(5), 8);
        is("forgot", x.core(2, 10), 1);
        is("other cores keep their lines", x.count(0), 2);
        is("and their filters", x.core(1, 2), 2);
        is("the line of 1", x.line(0, 2), 2);
    }

    private void forgetIsAnAct() {
        about("Promise 5", IS_ACT);
        isAct(CALM, "forget(1)", x -> x.forget(1));
        isAct(x -> {
            x.read(3, 40);
            x.drop(3, 40);
        }, "forget(3) of a bit alone", x -> x.forget(3));
    }

    private void forgetArguments() {
        about("Promise 5", CORE);
        range("forget(_)", (x, core) -> x.forget(core), 0, 3, UNKNOWN);
        for (int core = 0; core < 4; core++) {
            SnoopFilter x = new SnoopFilter();
            x.read(core, 0);
            is("forget(" + core + ")", x.forget(core), 1);
            is("it forgot", x.core(core, 10), 1);
        }
    }

    private void forgetAnswers() {
        about("Promise 5", "Returns how many lines are dropped; UNKNOWN; NONE if it holds no line, and its filter has counters and"
                + " bits of 0 alone.");
        for (int lines = 1; lines <= 8; lines++) {
            SnoopFilter x = new SnoopFilter();
            for (int line = 0; line < lines; line++) {
                x.read(0, line);
            }
            is("forget(0) of " + lines, x.forget(0), lines);
            is("forget(0) again", x.forget(0), NONE);
        }
        refused(FRESH, "forget(0) of nothing", x -> x.forget(0), NONE);
        refused(CALM, "forget(0) while another core holds lines", x -> x.forget(0), NONE);
        refused(CALM.andThen(x -> x.forget(1)), "forget(1) again", x -> x.forget(1), NONE);
        SnoopFilter bits = new SnoopFilter();
        bits.read(2, 255);
        bits.drop(2, 255);
        is("counters above 0", bits.core(2, 2), 0);
        is("forget(2) of a bit alone", bits.forget(2), 0);
        is("its bit", bits.bit(2, 15), 0);
        SnoopFilter counters = new SnoopFilter();
        counters.set(0, 1);
        counters.read(2, 0);
        counters.read(2, 5);
        counters.drop(2, 0);
        counters.drop(2, 5);
        is("counters above 0 that are stuck", counters.core(2, 2), 1);
        is("forget(2) of a counter and a bit", counters.forget(2), 0);
        is("counters then", counters.core(2, 2), 0);
        is("forget(4)", new SnoopFilter().forget(4), UNKNOWN);
    }

    private void setSets() {
        about("Promise 6", "Sets a setting; filters stay as they are.");
        Consumer<SnoopFilter> start = x -> {
            x.read(0, 0);
            x.read(0, 5);
            x.write(0, 17, 3);
        };
        for (int number : new int[] {1, 2, 24}) {
            SnoopFilter x = object(start);
            x.set(1, number);
            is("count(11)", x.count(11), number);
            is("the other setting", x.count(10), 3);
            is("lines", x.core(0, 0), 3);
            is("forgot", x.core(0, 10), 0);
        }
        SnoopFilter x = object(start);
        x.set(0, 1);
        is("count(10)", x.count(10), 1);
        is("the other setting", x.count(11), 20);
        is("a counter above the limit", x.counter(0, 5), 2);
        is("stuck", x.core(0, 3), 0);
        SnoopFilter stuck = new SnoopFilter();
        stuck.set(0, 1);
        stuck.read(0, 0);
        stuck.read(0, 5);
        stuck.set(0, 9);
        is("a counter that sticks stays stuck", stuck.core(0, 3), 1);
        is("as it was", stuck.counter(0, 5), 1);
    }

    private void setIsAnAct() {
        about("Promise 6", IS_ACT);
        isAct(CALM, "set(0, 1)", x -> x.set(0, 1));
        isAct(CALM, "set(0, 9)", x -> x.set(0, 9));
        isAct(CALM, "set(1, 1)", x -> x.set(1, 1));
        isAct(CALM, "set(1, 24)", x -> x.set(1, 24));
    }

    private void setArguments() {
        about("Promise 6", "`which`: 0 or 1");
        range("set(_, 5)", (x, which) -> x.set(which, 5), 0, 1, UNKNOWN);
        about("Promise 6", "`value`: in its range");
        range("set(0, _)", (x, value) -> x.set(0, value), 1, 9, BAD_VALUE);
        range("set(1, _)", (x, value) -> x.set(1, value), 1, 24, BAD_VALUE);
    }

    private void setAnswers() {
        about("Promise 6", "Returns the previous one; UNKNOWN; BAD_VALUE; NONE if it is so already.");
        SnoopFilter x = new SnoopFilter();
        is("set(0, 3), as at first", x.set(0, 3), NONE);
        is("set(1, 20), as at first", x.set(1, 20), NONE);
        is("set(0, 9)", x.set(0, 9), 3);
        is("set(0, 9) again", x.set(0, 9), NONE);
        is("set(1, 9)", x.set(1, 9), 20);
        is("set(0, 1)", x.set(0, 1), 9);
        is("set(1, 24)", x.set(1, 24), 9);
        is("set(1, 24) again", x.set(1, 24), NONE);
        is("set(1, 1)", x.set(1, 1), 24);
        is("set(0, 3)", x.set(0, 3), 1);
        refused(FRESH, "set(0, 3), as at first", y -> y.set(0, 3), NONE);
        refused(BUSY, "set(1, 9), as it is", y -> y.set(1, 9), NONE);
        is("set(2, 0)", x.set(2, 0), UNKNOWN);
        is("set(0, 0)", x.set(0, 0), BAD_VALUE);
    }
}
