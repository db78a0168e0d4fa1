/** Promises 1 to 6: a new object, read, write, drop, forget and set. */
public final class ReadingWritingTest {
    private static final int UNKNOWN = -1;
    private static final int BAD_VALUE = -2;
    private static final int NOT_POSSIBLE = -4;
    private static final int NONE = -5;

    private final Due due = new Due("ReadingWritingTest");

    public static void main(String[] args) {
        ReadingWritingTest test = new ReadingWritingTest();
        test.newObject();
        test.readHitAndMiss();
        test.readFromDirtyCore();
        test.readAsksInVain();
        test.readWritesBackWhatItDrops();
        test.readDropsBeforeItCounts();
        test.readErrors();
        test.countersStick();
        test.eachCounterSticks();
        test.loweredLimit();
        test.fullFilterForgets();
        test.fullFilterWritesBack();
        test.fullFilterIsNotAskedAgain();
        test.fullFilterUnsticks();
        test.writeHitOnDirty();
        test.writeOnCleanSnoops();
        test.writeTakesWithoutWritingBack();
        test.writeWritesBackWhatItDrops();
        test.writeSnoopsInVain();
        test.writeFillsTheFilter();
        test.writeErrors();
        test.dropCleanAndDirty();
        test.dropErrors();
        test.forgetOnPurpose();
        test.forgetBitsAlone();
        test.forgetErrors();
        test.setSettings();
        test.setErrors();
        test.due.close();
    }

    private void newObject() {
        for (int line = 0; line < 256; line++) {
            SnoopFilter x = new SnoopFilter();
            due.is("new: line(" + line + ", 0)", x.line(line, 0), 0);
            due.is("new: line(" + line + ", 1)", x.line(line, 1), 0);
            due.is("new: line(" + line + ", 2)", x.line(line, 2), 0);
            due.is("new: line(" + line + ", 3)", x.line(line, 3), 0);
        }
        SnoopFilter x = new SnoopFilter();
        for (int core = 0; core < 4; core++) {
            for (int what = 0; what <= 10; what++) {
                due.is("new: core(" + core + ", " + what + ")", x.core(core, what), 0);
            }
            for (int place = 0; place < 8; place++) {
                due.is("new: held", x.held(core, place, 0), NONE);
            }
            for (int counter = 0; counter < 24; counter++) {
                due.is("new: counter", x.counter(core, counter), 0);
            }
            for (int region = 0; region < 16; region++) {
                due.is("new: bit", x.bit(core, region), 0);
            }
        }
        for (int what = 0; what <= 13; what++) {
            due.is("new: count(" + what + ")", x.count(what), what == 10 ? 3 : what == 11 ? 20 : 0);
        }
        due.is("new: worst()", x.worst(), NONE);
        due.is("new: undo()", x.undo(), NONE);
        due.is("new: restore()", x.restore(), NONE);
        due.is("new: stopped(0)", x.stopped(0), NONE);
    }

    private void readHitAndMiss() {
        SnoopFilter x = new SnoopFilter();
        due.is("read(0, 17)", x.read(0, 17), 0);
        due.is("misses", x.core(0, 6), 1);
        due.is("hits", x.core(0, 5), 0);
        due.is("kept off from core 1", x.core(1, 9), 1);
        due.is("kept off from core 2", x.core(2, 9), 1);
        due.is("kept off from core 3", x.core(3, 9), 1);
        due.is("kept off from the reader", x.core(0, 9), 0);
        due.is("counter 17", x.counter(0, 17), 1);
        due.is("counter 4", x.counter(0, 4), 1);
        due.is("bit 1", x.bit(0, 1), 1);
        due.is("held line", x.held(0, 1, 0), 17);
        due.is("held clean", x.held(0, 1, 2), 0);
        due.is("read again", x.read(0, 17), 0);
        due.is("hits then", x.core(0, 5), 1);
        due.is("misses then", x.core(0, 6), 1);
        due.is("a hit snoops none", x.core(1, 9), 1);
        due.is("a hit counts no more", x.counter(0, 17), 1);
        due.is("a hit is an act", x.count(12), 2);
        due.is("read(3, 255)", x.read(3, 255), 0);
        due.is("bit 15", x.bit(3, 15), 1);
        due.is("place 7", x.held(3, 7, 0), 255);
    }

    private void readFromDirtyCore() {
        SnoopFilter x = new SnoopFilter();
        x.write(1, 17, 5);
        due.is("memory waits", x.line(17, 0), 0);
        due.is("read(0, 17)", x.read(0, 17), 5);
        due.is("memory", x.line(17, 0), 5);
        due.is("the owner keeps it", x.held(1, 1, 0), 17);
        due.is("clean", x.held(1, 1, 2), 0);
        due.is("written back", x.count(5), 1);
        due.is("came to 1", x.core(1, 7), 1);
        due.is("not in vain", x.core(1, 8), 0);
        due.is("kept off from 2", x.core(2, 9), 2);
        due.is("both hold it", x.line(17, 2), 3);
        due.is("read(2, 17)", x.read(2, 17), 5);
        due.is("clean ones are not written back", x.count(5), 1);
        due.is("came to 0", x.core(0, 7), 1);
        due.is("came to 1 again", x.core(1, 7), 2);
    }

    /** Core 1 holds 0 and 17: so the bit of region 1 and the counters of line 24 (0 and 5, as of 0) stand. */
    private static SnoopFilter withVainLine() {
        SnoopFilter x = new SnoopFilter();
        x.read(1, 0);
        x.read(1, 17);
        return x;
    }

    private void readAsksInVain() {
        SnoopFilter x = withVainLine();
        due.is("reason(1, 24)", x.reason(1, 24), 1);
        due.is("read(0, 24)", x.read(0, 24), 0);
        due.is("came", x.core(1, 7), 1);
        due.is("in vain", x.core(1, 8), 1);
        due.is("kept off before", x.core(1, 9), 0);
        due.is("core 1 keeps its lines", x.core(1, 0), 2);
        due.is("worst()", x.worst(), 1);
        due.is("nothing is written back", x.count(5), 0);
    }

    private void readWritesBackWhatItDrops() {
        SnoopFilter x = new SnoopFilter();
        x.write(0, 8, 3);
        due.is("read(0, 16)", x.read(0, 16), 0);
        due.is("memory", x.line(8, 0), 3);
        due.is("written back", x.count(5), 1);
        due.is("place 0", x.held(0, 0, 0), 16);
        due.is("value there", x.held(0, 0, 1), 0);
        due.is("clean", x.held(0, 0, 2), 0);
        due.is("counter 8", x.counter(0, 8), 0);
        due.is("counter 13", x.counter(0, 13), 0);
        due.is("bit 0 stays", x.bit(0, 0), 1);
        due.is("one line", x.core(0, 0), 1);
    }

    /** Lines 0, 24 and 48 have one place and the same counters: with a limit of 1 none may stick. */
    private void readDropsBeforeItCounts() {
        SnoopFilter x = new SnoopFilter();
        x.set(0, 1);
        x.read(0, 0);
        x.read(0, 24);
        x.write(0, 48, 1);
        due.is("stuck", x.core(0, 3), 0);
        due.is("counter 0", x.counter(0, 0), 1);
        due.is("counter 5", x.counter(0, 5), 1);
        due.is("bits", x.core(0, 4), 3);
    }

    private void readErrors() {
        SnoopFilter x = new SnoopFilter();
        due.is("read(-1, 0)", x.read(-1, 0), UNKNOWN);
        due.is("read(4, 0)", x.read(4, 0), UNKNOWN);
        due.is("read(0, -1)", x.read(0, -1), UNKNOWN);
        due.is("read(0, 256)", x.read(0, 256), UNKNOWN);
        due.is("misses", x.count(8), 0);
        due.is("no act", x.count(12), 0);
    }

    /** Lines 0 and 5 share the counter 5; the others are 0 for line 0 and 16 for line 5. */
    private void countersStick() {
        SnoopFilter x = new SnoopFilter();
        x.set(0, 1);
        x.read(0, 0);
        due.is("not stuck yet", x.core(0, 3), 0);
        x.read(0, 5);
        due.is("stuck", x.core(0, 3), 1);
        due.is("counter 5", x.counter(0, 5), 1);
        x.drop(0, 0);
        x.drop(0, 5);
        due.is("counter 5 stays", x.counter(0, 5), 1);
        due.is("counter 0", x.counter(0, 0), 0);
        due.is("counter 16", x.counter(0, 16), 0);
        x.set(0, 9);
        x.read(0, 5);
        due.is("counter 5 is stuck still", x.counter(0, 5), 1);
        due.is("counter 16 is not", x.counter(0, 16), 1);
        due.is("forget(0)", x.forget(0), 1);
        due.is("stuck no more", x.core(0, 3), 0);
        due.is("counter 5 then", x.counter(0, 5), 0);
        x.read(0, 5);
        x.read(0, 0);
        due.is("counter 5 counts", x.counter(0, 5), 2);
        x.drop(0, 0);
        due.is("counter 5 counts down", x.counter(0, 5), 1);
    }

    /** The counter c is that of the line c, and of the line 7 * (c - 5) modulo 24. */
    private void eachCounterSticks() {
        for (int counter = 0; counter < 24; counter++) {
            int other = Math.floorMod(7 * (counter - 5), 24);
            SnoopFilter x = new SnoopFilter();
            x.set(0, 1);
            x.read(2, counter);
            x.read(2, other);
            due.is("stuck for " + counter, x.core(2, 3), 1);
            x.drop(2, counter);
            x.drop(2, other);
            due.is("above 0 for " + counter, x.core(2, 2), 1);
            due.is("counter " + counter, x.counter(2, counter), 1);
            SnoopFilter y = new SnoopFilter();
            y.set(0, 2);
            y.read(2, counter);
            y.read(2, other);
            due.is("none is stuck for " + counter, y.core(2, 3), 0);
            due.is("counter " + counter + " of two lines", y.counter(2, counter), 2);
        }
    }

    /** Lines 0, 5 and 29 have the counter 5; 5 and 29 have one place, so that it never is above 2. */
    private void loweredLimit() {
        SnoopFilter x = new SnoopFilter();
        x.read(0, 0);
        x.read(0, 5);
        due.is("set(0, 1)", x.set(0, 1), 3);
        due.is("filters stay as they are", x.counter(0, 5), 2);
        due.is("none sticks by it", x.core(0, 3), 0);
        x.drop(0, 0);
        due.is("it counts down", x.counter(0, 5), 1);
        x.read(0, 0);
        due.is("now it sticks", x.core(0, 3), 1);
        due.is("as it was", x.counter(0, 5), 1);

        SnoopFilter y = new SnoopFilter();
        y.read(0, 0);
        y.read(0, 5);
        y.set(0, 1);
        // 10 has the counters 10 and 3; 15 has 15 and 14; 16 has 16 and 21, and 16 is already 1.
        y.drop(0, 0);
        y.read(0, 16);
        due.is("16 sticks", y.core(0, 3), 1);
        due.is("counter 16", y.counter(0, 16), 1);
        due.is("counter 21", y.counter(0, 21), 1);
    }

    private void fullFilterForgets() {
        SnoopFilter x = new SnoopFilter();
        x.set(1, 4);
        x.read(0, 0);
        due.is("not full", x.core(0, 10), 0);
        x.read(0, 17);
        due.is("forgot", x.core(0, 10), 1);
        due.is("one line", x.core(0, 0), 1);
        due.is("place 0", x.held(0, 0, 0), NONE);
        due.is("place 1", x.held(0, 1, 0), 17);
        due.is("clean as it was", x.held(0, 1, 2), 0);
        due.is("counter 0", x.counter(0, 0), 0);
        due.is("counter 5", x.counter(0, 5), 0);
        due.is("counter 17", x.counter(0, 17), 1);
        due.is("counter 4", x.counter(0, 4), 1);
        due.is("bit 0", x.bit(0, 0), 0);
        due.is("bit 1", x.bit(0, 1), 1);
        due.is("others did not", x.count(6), 1);
    }

    private void fullFilterWritesBack() {
        SnoopFilter x = new SnoopFilter();
        x.set(1, 5);
        x.write(0, 0, 7);
        x.write(0, 1, 8);
        due.is("4 counters are not 5", x.core(0, 10), 0);
        due.is("cost(0, 2, true, 2)", x.cost(0, 2, true, 2), 2);
        x.write(0, 2, 9);
        due.is("forgot", x.core(0, 10), 1);
        due.is("memory 0", x.line(0, 0), 7);
        due.is("memory 1", x.line(1, 0), 8);
        due.is("memory 2", x.line(2, 0), 0);
        due.is("the line is dirty still", x.held(0, 2, 2), 1);
        due.is("its value", x.held(0, 2, 1), 9);
        due.is("written back", x.count(5), 2);
        due.is("one dirty", x.count(1), 1);
    }

    private void fullFilterIsNotAskedAgain() {
        SnoopFilter x = new SnoopFilter();
        x.set(1, 1);
        x.read(0, 3);
        due.is("forgot once", x.core(0, 10), 1);
        due.is("holds it", x.held(0, 3, 0), 3);
        due.is("two counters", x.core(0, 2), 2);
        x.read(0, 3);
        due.is("a hit does not ask", x.core(0, 10), 1);
        x.read(0, 4);
        due.is("forgot twice", x.core(0, 10), 2);
        due.is("holds one", x.core(0, 0), 1);
        x.drop(0, 4);
        due.is("dropping does not ask", x.core(0, 10), 2);
    }

    private void fullFilterUnsticks() {
        SnoopFilter x = new SnoopFilter();
        x.set(0, 1);
        x.set(1, 3);
        x.read(0, 0);
        x.read(0, 5);
        due.is("forgot", x.core(0, 10), 1);
        due.is("none is stuck", x.core(0, 3), 0);
        due.is("counter 5", x.counter(0, 5), 1);
        x.drop(0, 5);
        due.is("it counts down", x.counter(0, 5), 0);
    }

    private void writeHitOnDirty() {
        SnoopFilter x = new SnoopFilter();
        due.is("write(0, 17, 5)", x.write(0, 17, 5), 0);
        due.is("kept off from 1", x.core(1, 9), 1);
        due.is("dirty", x.held(0, 1, 2), 1);
        due.is("value", x.held(0, 1, 1), 5);
        due.is("memory", x.line(17, 0), 0);
        due.is("write(0, 17, 0)", x.write(0, 17, 0), 0);
        due.is("value then", x.held(0, 1, 1), 0);
        due.is("no more snoops", x.core(1, 9), 1);
        due.is("writes", x.count(9), 2);
        due.is("counter 17", x.counter(0, 17), 1);
        due.is("no hit", x.core(0, 5), 0);
        due.is("no miss", x.core(0, 6), 0);
        due.is("write(0, 17, 9999)", x.write(0, 17, 9999), 0);
        due.is("value at last", x.held(0, 1, 1), 9999);
        due.is("line(17, 1)", x.line(17, 1), 9999);
    }

    private void writeOnCleanSnoops() {
        SnoopFilter x = new SnoopFilter();
        x.read(0, 17);
        x.read(1, 17);
        x.read(3, 17);
        int came = x.count(2);
        due.is("write(1, 17, 6)", x.write(1, 17, 6), 2);
        due.is("came", x.count(2) - came, 2);
        due.is("1 holds it alone", x.line(17, 2), 2);
        due.is("dirty", x.held(1, 1, 2), 1);
        due.is("value", x.held(1, 1, 1), 6);
        due.is("counter of 1", x.counter(1, 17), 1);
        due.is("counter of 0", x.counter(0, 17), 0);
        due.is("counter of 3", x.counter(3, 4), 0);
        due.is("bit of 0 stays", x.bit(0, 1), 1);
        due.is("misses by reading alone", x.count(8), 3);
    }

    private void writeTakesWithoutWritingBack() {
        SnoopFilter x = new SnoopFilter();
        x.write(0, 17, 5);
        due.is("write(2, 17, 6)", x.write(2, 17, 6), 1);
        due.is("not written back", x.count(5), 0);
        due.is("memory", x.line(17, 0), 0);
        due.is("0 dropped it", x.held(0, 1, 0), NONE);
        due.is("2 has it", x.held(2, 1, 1), 6);
        due.is("0 has no dirty line", x.core(0, 1), 0);
        due.is("read(0, 17)", x.read(0, 17), 6);
    }

    private void writeWritesBackWhatItDrops() {
        SnoopFilter x = new SnoopFilter();
        x.write(0, 8, 3);
        due.is("write(0, 16, 4)", x.write(0, 16, 4), 0);
        due.is("memory 8", x.line(8, 0), 3);
        due.is("memory 16", x.line(16, 0), 0);
        due.is("written back", x.count(5), 1);
        due.is("counter 8", x.counter(0, 8), 0);
        due.is("holds 16", x.held(0, 0, 0), 16);
    }

    private void writeSnoopsInVain() {
        SnoopFilter x = withVainLine();
        due.is("write(0, 24, 1)", x.write(0, 24, 1), 1);
        due.is("came", x.core(1, 7), 1);
        due.is("in vain", x.core(1, 8), 1);
        due.is("core 1 keeps its lines", x.core(1, 0), 2);
        due.is("kept off from 2, behind two readings", x.core(2, 9), 3);
    }

    private void writeFillsTheFilter() {
        SnoopFilter x = new SnoopFilter();
        x.set(1, 2);
        x.write(0, 9, 4);
        due.is("forgot", x.core(0, 10), 1);
        due.is("dirty as it was", x.held(0, 1, 2), 1);
        due.is("value as it was", x.held(0, 1, 1), 4);
        x.drop(0, 9);
        x.read(0, 9);
        due.is("forgot again", x.core(0, 10), 2);
        x.write(0, 9, 5);
        due.is("a line that is held does not begin anew", x.core(0, 10), 2);
    }

    private void writeErrors() {
        SnoopFilter x = new SnoopFilter();
        due.is("write(-1, 0, 0)", x.write(-1, 0, 0), UNKNOWN);
        due.is("write(4, 0, 0)", x.write(4, 0, 0), UNKNOWN);
        due.is("write(0, -1, 0)", x.write(0, -1, 0), UNKNOWN);
        due.is("write(0, 256, 0)", x.write(0, 256, 0), UNKNOWN);
        due.is("write(0, 0, -1)", x.write(0, 0, -1), BAD_VALUE);
        due.is("write(0, 0, 10000)", x.write(0, 0, 10000), BAD_VALUE);
        due.is("write(4, 0, 10000)", x.write(4, 0, 10000), UNKNOWN);
        due.is("write(0, 256, -1)", x.write(0, 256, -1), UNKNOWN);
        due.is("writes", x.count(9), 0);
        due.is("no act", x.count(12), 0);
    }

    private void dropCleanAndDirty() {
        SnoopFilter x = new SnoopFilter();
        x.read(0, 17);
        due.is("drop clean", x.drop(0, 17), 0);
        due.is("held", x.held(0, 1, 0), NONE);
        due.is("counter 17", x.counter(0, 17), 0);
        due.is("counter 4", x.counter(0, 4), 0);
        due.is("bit stays", x.bit(0, 1), 1);
        due.is("nothing written back", x.count(5), 0);
        x.write(0, 17, 7);
        due.is("drop dirty", x.drop(0, 17), 1);
        due.is("memory", x.line(17, 0), 7);
        due.is("written back", x.count(5), 1);
        due.is("dirty lines", x.core(0, 1), 0);
        due.is("acts", x.count(12), 4);
        due.is("did not forget", x.core(0, 10), 0);
    }

    private void dropErrors() {
        SnoopFilter x = new SnoopFilter();
        x.read(0, 0);
        due.is("drop(-1, 0)", x.drop(-1, 0), UNKNOWN);
        due.is("drop(4, 0)", x.drop(4, 0), UNKNOWN);
        due.is("drop(0, -1)", x.drop(0, -1), UNKNOWN);
        due.is("drop(0, 256)", x.drop(0, 256), UNKNOWN);
        due.is("drop(0, 8)", x.drop(0, 8), NOT_POSSIBLE);
        due.is("drop(1, 0)", x.drop(1, 0), NOT_POSSIBLE);
        due.is("no act", x.count(12), 1);
        due.is("still held", x.held(0, 0, 0), 0);
    }

    private void forgetOnPurpose() {
        SnoopFilter x = new SnoopFilter();
        x.write(0, 0, 7);
        x.read(0, 17);
        x.write(0, 34, 9);
        x.read(1, 17);
        due.is("forget(0)", x.forget(0), 3);
        due.is("memory 0", x.line(0, 0), 7);
        due.is("memory 34", x.line(34, 0), 9);
        due.is("written back", x.count(5), 2);
        due.is("lines", x.core(0, 0), 0);
        due.is("dirty ones", x.core(0, 1), 0);
        due.is("counters", x.core(0, 2), 0);
        due.is("bits", x.core(0, 4), 0);
        due.is("forgot", x.core(0, 10), 1);
        due.is("1 did not", x.core(1, 0), 1);
        due.is("forget(0) again", x.forget(0), NONE);
        due.is("forgot once", x.core(0, 10), 1);
        due.is("acts", x.count(12), 4);
        due.is("undo()", x.undo(), 3);
        due.is("lines are back", x.core(0, 0), 3);
        due.is("forgot is back", x.count(6), 0);
        due.is("memory is back", x.line(34, 0), 0);
    }

    private void forgetBitsAlone() {
        SnoopFilter x = new SnoopFilter();
        x.read(2, 200);
        x.drop(2, 200);
        due.is("forget(2)", x.forget(2), 0);
        due.is("bit", x.bit(2, 12), 0);
        due.is("forgot", x.core(2, 10), 1);
        due.is("forget(2) again", x.forget(2), NONE);
    }

    private void forgetErrors() {
        SnoopFilter x = new SnoopFilter();
        due.is("forget(-1)", x.forget(-1), UNKNOWN);
        due.is("forget(4)", x.forget(4), UNKNOWN);
        due.is("forget(3)", x.forget(3), NONE);
        due.is("no act", x.count(12), 0);
        due.is("forgot", x.count(6), 0);
    }

    private void setSettings() {
        SnoopFilter x = new SnoopFilter();
        due.is("set(0, 9)", x.set(0, 9), 3);
        due.is("set(0, 1)", x.set(0, 1), 9);
        due.is("set(1, 24)", x.set(1, 24), 20);
        due.is("set(1, 1)", x.set(1, 1), 24);
        due.is("set(0, 1) again", x.set(0, 1), NONE);
        due.is("set(1, 1) again", x.set(1, 1), NONE);
        due.is("count(10)", x.count(10), 1);
        due.is("count(11)", x.count(11), 1);
        due.is("acts", x.count(12), 4);
        due.is("undo()", x.undo(), 3);
        due.is("settings are undone", x.count(11), 24);

        SnoopFilter y = new SnoopFilter();
        y.read(0, 0);
        y.read(0, 1);
        y.set(1, 1);
        due.is("filters stay as they are", y.core(0, 2), 4);
        due.is("none forgets", y.count(6), 0);
    }

    private void setErrors() {
        SnoopFilter x = new SnoopFilter();
        due.is("set(-1, 1)", x.set(-1, 1), UNKNOWN);
        due.is("set(2, 1)", x.set(2, 1), UNKNOWN);
        due.is("set(2, 0)", x.set(2, 0), UNKNOWN);
        due.is("set(0, 0)", x.set(0, 0), BAD_VALUE);
        due.is("set(0, 10)", x.set(0, 10), BAD_VALUE);
        due.is("set(1, 0)", x.set(1, 0), BAD_VALUE);
        due.is("set(1, 25)", x.set(1, 25), BAD_VALUE);
        due.is("set(0, 3)", x.set(0, 3), NONE);
        due.is("set(1, 20)", x.set(1, 20), NONE);
        due.is("no act", x.count(12), 0);
        due.is("count(10)", x.count(10), 3);
        due.is("count(11)", x.count(11), 20);
    }
}
