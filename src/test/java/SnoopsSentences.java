/** READING, WRITING. */
final class SnoopsSentences extends Sentences {
    private static final String SECTION = "READING, WRITING";
    private static final String MISS = "Otherwise it is a miss: each other core, by numbers, is snooped if it may have the line,"
            + " by its filter; otherwise the snoop is kept off.";
    private static final String SNOOPED = "A core that is snooped and holds the line writes it back, if it is dirty; one that does"
            + " not hold it was asked in vain.";
    private static final String READS = "Then the reading core drops what is at the line's place (a dirty line is written back"
            + " first), and begins to hold the line, clean, with the value of the memory.";
    private static final String WRITES_DIRTY = "When a core writes a line that it holds dirty, the line gets the value there.";
    private static final String TAKES = "Otherwise other cores are snooped likewise; one that holds the line drops it (without"
            + " writing it back).";
    private static final String WRITES = "Then, if the core holds the line, it gets the value there, and is dirty; otherwise it"
            + " drops what is at the line's place (a dirty line is written back first), and begins to hold the line, dirty, with"
            + " the value.";

    SnoopsSentences(Due due, Document document) {
        super(due, document);
    }

    @Override
    void run() {
        hits();
        hitsAndPlaces();
        missSnoopsEachOther();
        missKeepsOff();
        snoopedWritesBack();
        snoopedInVain();
        readerDropsAndHolds();
        writesDirty();
        takesFromOthers();
        takesInVain();
        writesCleanAndNone();
    }

    private void tallies(String when, SnoopFilter x, int core, int hits, int misses, int came, int inVain, int keptOff) {
        is("hits of " + core + " " + when, x.core(core, 5), hits);
        is("misses of " + core + " " + when, x.core(core, 6), misses);
        is("snoops that came to " + core + " " + when, x.core(core, 7), came);
        is("snoops in vain to " + core + " " + when, x.core(core, 8), inVain);
        is("snoops kept off from " + core + " " + when, x.core(core, 9), keptOff);
    }

    private void hits() {
        about(SECTION, "When a core reads a line that it holds, this is a hit.");
        SnoopFilter x = new SnoopFilter();
        x.read(0, 0);
        tallies("behind a miss", x, 0, 0, 1, 0, 0, 0);
        is("read(0, 0)", x.read(0, 0), 0);
        tallies("behind a hit", x, 0, 1, 1, 0, 0, 0);
        tallies("that a hit does not snoop", x, 1, 0, 0, 0, 0, 1);
        x.write(0, 0, 9);
        is("read(0, 0) of a dirty line", x.read(0, 0), 9);
        tallies("behind a hit on a dirty line", x, 0, 2, 1, 0, 0, 0);
        is("it stays dirty", x.held(0, 0, 2), 1);
        is("it is not written back", x.count(5), 0);
        is("its counter stays", x.counter(0, 0), 1);
        x.read(1, 0);
        tallies("that another core holds too", x, 1, 0, 1, 0, 0, 2);
        x.drop(0, 0);
        x.read(0, 0);
        tallies("behind a drop", x, 0, 2, 2, 1, 0, 0);
    }

    private void hitsAndPlaces() {
        about(SECTION, "When a core reads a line that it holds, this is a hit.");
        SnoopFilter x = new SnoopFilter();
        x.read(0, 0);
        for (int line = 8; line <= 248; line += 8) {
            x.read(0, line);
            is("hits behind " + line + " in place of another", x.core(0, 5), 0);
            is("misses behind " + line, x.core(0, 6), 1 + line / 8);
        }
        x.read(0, 248);
        is("hits behind the last one again", x.core(0, 5), 1);
        x.read(0, 0);
        is("misses behind the first one again", x.core(0, 6), 33);
    }

    private void missSnoopsEachOther() {
        about(SECTION, MISS);
        for (int reader = 0; reader < 4; reader++) {
            SnoopFilter x = new SnoopFilter();
            for (int core = 0; core < 4; core++) {
                x.read(core, 40);
            }
            x.drop(reader, 40);
            int came = x.count(2);
            int own = x.core(reader, 7);
            int keptOff = x.count(4);
            x.read(reader, 40);
            is("snoops by " + reader, x.count(2) - came, 3);
            is("snoops to " + reader + " itself", x.core(reader, 7) - own, 0);
            is("kept off", x.count(4) - keptOff, 0);
        }
    }

    private void missKeepsOff() {
        about(SECTION, MISS);
        SnoopFilter x = new SnoopFilter();
        x.read(0, 40);
        for (int core = 1; core < 4; core++) {
            tallies("of an empty filter", x, core, 0, 0, 0, 0, 1);
        }
        tallies("of the reader", x, 0, 0, 1, 0, 0, 0);
        // 13 has one counter of 0, and 24 both in another region: both are kept off.
        x.read(1, 0);
        x.read(2, 13);
        x.read(2, 24);
        tallies("by a counter, and by the bit", x, 1, 0, 1, 0, 0, 3);
        x.drop(1, 0);
        x.read(3, 0);
        tallies("by the counters of a line that it holds no more", x, 1, 0, 1, 0, 0, 4);
    }

    private void snoopedWritesBack() {
        about(SECTION, SNOOPED);
        SnoopFilter x = new SnoopFilter();
        x.write(2, 33, 12);
        is("read(0, 33)", x.read(0, 33), 12);
        is("written back", x.count(5), 1);
        is("memory", x.line(33, 0), 12);
        is("it holds the line still", x.held(2, 1, 0), 33);
        is("clean", x.held(2, 1, 2), 0);
        tallies("that holds it", x, 2, 0, 0, 1, 0, 0);
        is("read(1, 33)", x.read(1, 33), 12);
        is("clean ones write nothing back", x.count(5), 1);
        tallies("that holds it clean", x, 0, 0, 1, 1, 0, 1);
        tallies("that holds it clean by now", x, 2, 0, 0, 2, 0, 0);
        x.write(2, 34, 13);
        x.read(3, 33);
        is("its other dirty line stays", x.held(2, 2, 2), 1);
    }

    private void snoopedInVain() {
        about(SECTION, SNOOPED);
        SnoopFilter x = object(CALM);
        is("reason(1, 24)", x.reason(1, 24), 1);
        is("read(0, 24)", x.read(0, 24), 0);
        tallies("that does not hold it", x, 1, 0, 1, 1, 1, 0);
        is("nothing is written back", x.count(5), 0);
        is("its dirty line stays", x.held(1, 1, 2), 1);
        x.read(0, 17);
        tallies("that holds it", x, 1, 0, 1, 2, 1, 0);
    }

    private void readerDropsAndHolds() {
        about(SECTION, READS);
        SnoopFilter x = new SnoopFilter();
        x.write(0, 8, 3);
        x.write(0, 9, 4);
        is("read(0, 16)", x.read(0, 16), 0);
        is("memory 8", x.line(8, 0), 3);
        is("written back", x.count(5), 1);
        is("the line", x.held(0, 0, 0), 16);
        is("clean", x.held(0, 0, 2), 0);
        is("a line of another place stays", x.held(0, 1, 1), 4);
        is("and is not written back", x.line(9, 0), 0);
        is("read(0, 8) from the memory", x.read(0, 8), 3);
        is("a clean line is not written back", x.count(5), 1);
        is("8 is clean then", x.held(0, 0, 2), 0);
        x.write(1, 248, 9999);
        is("read(0, 248)", x.read(0, 248), 9999);
        is("its value there", x.held(0, 0, 1), 9999);
        is("lines", x.core(0, 0), 2);
        // The line that goes has the counters of the one that comes: with a limit of 1, none may stick.
        SnoopFilter same = new SnoopFilter();
        same.set(0, 1);
        same.read(0, 0);
        same.read(0, 24);
        is("it drops before it begins to hold", same.core(0, 3), 0);
        is("counter 0", same.counter(0, 0), 1);
    }

    private void writesDirty() {
        about(SECTION, WRITES_DIRTY);
        SnoopFilter x = new SnoopFilter();
        x.write(0, 17, 9999);
        int keptOff = x.count(4);
        is("write(0, 17, 0)", x.write(0, 17, 0), 0);
        is("value 0", x.held(0, 1, 1), 0);
        is("write(0, 17, 5)", x.write(0, 17, 5), 0);
        is("value 5", x.held(0, 1, 1), 5);
        is("dirty", x.held(0, 1, 2), 1);
        is("memory", x.line(17, 0), 0);
        is("no snoops are sent", x.count(4) - keptOff + x.count(2), 0);
        is("nothing is written back", x.count(5), 0);
        is("its counter stays", x.counter(0, 17), 1);
        is("it is neither a hit nor a miss", x.count(7) + x.count(8), 0);
        x.read(1, 17);
        is("a line that is clean by now is snooped for", x.write(0, 17, 6), 1);
        is("memory then", x.line(17, 0), 5);
    }

    private void takesFromOthers() {
        about(SECTION, TAKES);
        SnoopFilter x = new SnoopFilter();
        x.write(1, 17, 5);
        x.write(1, 18, 6);
        is("write(0, 17, 7)", x.write(0, 17, 7), 1);
        is("the other drops it", x.held(1, 1, 0), NONE);
        is("it keeps its other line", x.held(1, 2, 1), 6);
        is("it is not written back", x.count(5), 0);
        is("memory", x.line(17, 0), 0);
        is("its counter", x.counter(1, 17), 0);
        is("its bit", x.bit(1, 1), 1);
        tallies("that held it", x, 1, 0, 0, 1, 0, 0);
        x.read(1, 17);
        x.read(2, 17);
        x.read(3, 17);
        int back = x.count(5);
        is("write(2, 17, 8) of three others", x.write(2, 17, 8), 3);
        is("it is held once", x.line(17, 2), 4);
        is("clean ones are not written back", x.count(5), back);
        is("dirty", x.held(2, 1, 2), 1);
        is("no core forgets", x.count(6), 0);
    }

    private void takesInVain() {
        about(SECTION, TAKES);
        SnoopFilter x = object(CALM);
        is("write(0, 24, 4)", x.write(0, 24, 4), 1);
        tallies("that does not hold it", x, 1, 0, 1, 1, 1, 0);
        tallies("with an empty filter", x, 2, 0, 0, 0, 0, 3);
        is("it keeps the line of that place", x.held(1, 0, 0), 0);
        is("and its dirty line", x.held(1, 1, 1), 6);
        is("nothing is written back", x.count(5), 0);
        is("write(2, 255, 1) of none", x.write(2, 255, 1), 0);
        tallies("that is kept off", x, 1, 0, 1, 1, 1, 1);
    }

    private void writesCleanAndNone() {
        about(SECTION, WRITES);
        SnoopFilter x = new SnoopFilter();
        x.read(0, 17);
        is("write(0, 17, 5) of a clean line", x.write(0, 17, 5), 0);
        is("value", x.held(0, 1, 1), 5);
        is("dirty", x.held(0, 1, 2), 1);
        is("it does not begin anew", x.counter(0, 17), 1);
        is("nothing is written back", x.count(5), 0);
        is("write(0, 25, 9999) of none", x.write(0, 25, 9999), 0);
        is("what was there is written back", x.line(17, 0), 5);
        is("written back", x.count(5), 1);
        is("the line", x.held(0, 1, 0), 25);
        is("its value", x.held(0, 1, 1), 9999);
        is("it is dirty", x.held(0, 1, 2), 1);
        is("its counter", x.counter(0, 1), 1);
        is("the counter of what was there", x.counter(0, 17), 0);
        is("memory of the line", x.line(25, 0), 0);
        x.read(0, 18);
        x.write(0, 26, 0);
        is("a clean line is dropped unsaved", x.count(5), 1);
        is("0 makes it dirty too", x.held(0, 2, 2), 1);
        SnoopFilter same = new SnoopFilter();
        same.set(0, 1);
        same.write(0, 0, 1);
        same.write(0, 24, 2);
        is("it drops before it begins to hold", same.core(0, 3), 0);
        is("counter 0", same.counter(0, 0), 1);
    }
}
