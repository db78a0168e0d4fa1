/** MEMORY, CACHES. */
final class CachesSentences extends Sentences {
    private static final String SECTION = "MEMORY, CACHES";

    CachesSentences(Due due, Document document) {
        super(due, document);
    }

    @Override
    void run() {
        memoryOf256Lines();
        valuesOfTheMemory();
        regions();
        fourCores();
        placeOfEachLine();
        fullCache();
        cleanOrDirty();
        writingBack();
    }

    private void memoryOf256Lines() {
        about(SECTION, "The memory has 256 lines, 0 to 255, each with a value (0 to 9999; 0 at first).");
        SnoopFilter x = new SnoopFilter();
        for (int line = 0; line <= 255; line++) {
            is("line(" + line + ", 0) at first", x.line(line, 0), 0);
        }
        range("line(_, 0)", (y, line) -> y.line(line, 0), 0, 255, UNKNOWN);
        SnoopFilter each = null;
        for (int line = 0; line <= 255; line++) {
            if (line % 64 == 0) {
                each = new SnoopFilter();
            }
            each.write(0, line, 5000 + line);
            each.drop(0, line);
            is("line(" + line + ", 0)", each.line(line, 0), 5000 + line);
            is("its neighbour", each.line((line + 1) % 256, 0), 0);
        }
    }

    private void valuesOfTheMemory() {
        about(SECTION, "The memory has 256 lines, 0 to 255, each with a value (0 to 9999; 0 at first).");
        SnoopFilter x = null;
        for (int value = 9999; value >= 0; value--) {
            if (value % 100 == 99) {
                x = new SnoopFilter();
            }
            x.write(0, 255, value);
            x.drop(0, 255);
            is("line(255, 0) of " + value, x.line(255, 0), value);
        }
        range("write(0, 0, _)", (y, value) -> y.write(0, 0, value), 0, 9999, BAD_VALUE);
    }

    private void regions() {
        about(SECTION, "The region of a line is the line divided by 16, rounded down.");
        for (int line = 0; line <= 255; line++) {
            SnoopFilter x = new SnoopFilter();
            x.read(0, line);
            for (int region = 0; region < 16; region++) {
                boolean isOwn = line >= 16 * region && line <= 16 * region + 15;
                is("bit(0, " + region + ") of line " + line, x.bit(0, region), isOwn ? 1 : 0);
            }
        }
    }

    private void fourCores() {
        about(SECTION, "There are 4 cores, 0 to 3.");
        range("read(_, 0)", (x, core) -> x.read(core, 0), 0, 3, UNKNOWN);
        SnoopFilter x = new SnoopFilter();
        for (int core = 0; core < 4; core++) {
            x.write(core, 8 * core, 100 + core);
        }
        for (int core = 0; core < 4; core++) {
            is("held(" + core + ", 0, 0)", x.held(core, 0, 0), 8 * core);
            is("held(" + core + ", 0, 1)", x.held(core, 0, 1), 100 + core);
            is("core(" + core + ", 0)", x.core(core, 0), 1);
        }
    }

    private void placeOfEachLine() {
        about(SECTION, "Each has a cache with 8 places; a line can be held at the place that is the line modulo 8 alone.");
        for (int line = 0; line <= 255; line++) {
            SnoopFilter x = new SnoopFilter();
            x.read(3, line);
            for (int place = 0; place < 8; place++) {
                is("held(3, " + place + ", 0) of line " + line, x.held(3, place, 0), (line - place) % 8 == 0 ? line : NONE);
            }
        }
        range("held(0, _, 0)", (x, place) -> x.held(0, place, 0), 0, 7, BAD_VALUE);
    }

    /** 8 lines fill the cache; the line behind the last place comes to the first place again. */
    private void fullCache() {
        about(SECTION, "Each has a cache with 8 places; a line can be held at the place that is the line modulo 8 alone.");
        SnoopFilter x = new SnoopFilter();
        for (int line = 0; line < 8; line++) {
            is("lines before " + line, x.core(0, 0), line);
            x.read(0, line);
        }
        is("lines of a full cache", x.core(0, 0), 8);
        x.read(0, 8);
        is("lines behind 8", x.core(0, 0), 8);
        is("place 0", x.held(0, 0, 0), 8);
        for (int place = 1; place < 8; place++) {
            is("place " + place, x.held(0, place, 0), place);
        }
        x.read(0, 255);
        is("place 7 behind 255", x.held(0, 7, 0), 255);
        is("place 0 behind 255", x.held(0, 0, 0), 8);
    }

    private void cleanOrDirty() {
        about(SECTION, "A line that is held has a value there, and is clean, or dirty.");
        SnoopFilter x = new SnoopFilter();
        for (int what = 0; what <= 2; what++) {
            is("held(0, 5, " + what + ") of none", x.held(0, 5, what), NONE);
        }
        x.read(0, 5);
        is("value as it is read", x.held(0, 5, 1), 0);
        is("dirty as it is read", x.held(0, 5, 2), 0);
        x.write(0, 5, 0);
        is("value as 0 is written", x.held(0, 5, 1), 0);
        is("dirty as 0 is written", x.held(0, 5, 2), 1);
        x.write(0, 5, 9999);
        is("value as 9999 is written", x.held(0, 5, 1), 9999);
        is("dirty as 9999 is written", x.held(0, 5, 2), 1);
        is("memory", x.line(5, 0), 0);
    }

    private void writingBack() {
        about(SECTION, "A dirty line that is written back gives its value to the memory, and is clean.");
        SnoopFilter x = new SnoopFilter();
        x.write(1, 17, 5);
        is("memory before", x.line(17, 0), 0);
        is("dirty before", x.held(1, 1, 2), 1);
        x.read(0, 17);
        is("memory", x.line(17, 0), 5);
        is("the line", x.held(1, 1, 0), 17);
        is("its value there", x.held(1, 1, 1), 5);
        is("dirty", x.held(1, 1, 2), 0);
        is("dirty ones", x.count(1), 0);
        x.read(2, 17);
        x.drop(1, 17);
        is("it is written back once", x.count(5), 1);
        x.write(3, 0, 0);
        x.drop(3, 0);
        is("the value that the memory has is written back too", x.count(5), 2);
    }
}
