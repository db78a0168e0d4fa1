/** Promises 11 to 13: undo, keep and restore. */
public final class HistoryTest {
    private static final int NOT_POSSIBLE = -4;
    private static final int NONE = -5;
    private static final int[] LINES = {0, 17, 24, 40, 42, 44, 45, 46};

    private final Due due = new Due("HistoryTest");

    public static void main(String[] args) {
        HistoryTest test = new HistoryTest();
        test.undoesEverything();
        test.holdsFour();
        test.recordsAfterUndo();
        test.actsAlone();
        test.everyActIsUndone();
        test.keeps();
        test.keepsAnew();
        test.restores();
        test.restoreOfTheSame();
        test.due.close();
    }

    /** So few questions that an object can be asked them twelve times in its 512 calls. */
    private static String told(SnoopFilter x) {
        StringBuilder all = new StringBuilder();
        for (int core = 0; core < 4; core++) {
            for (int what = 0; what <= 4; what++) {
                all.append(x.core(core, what)).append(' ');
            }
        }
        for (int line : LINES) {
            all.append(x.line(line, 1)).append(' ');
        }
        for (int what = 0; what <= 11; what++) {
            all.append(x.count(what)).append(' ');
        }
        return all.toString();
    }

    private static SnoopFilter busy() {
        SnoopFilter x = new SnoopFilter();
        x.set(0, 1);
        x.set(1, 9);
        x.write(0, 0, 3);
        x.write(0, 5, 4);
        x.read(1, 0);
        x.read(1, 17);
        x.write(2, 24, 8);
        x.read(3, 200);
        x.read(3, 200);
        x.read(0, 33);
        x.read(0, 70);
        return x;
    }

    private void undoesEverything() {
        SnoopFilter x = busy();
        String before = told(x);
        x.write(1, 24, 11);
        due.holds("something changed", !before.equals(told(x)));
        due.is("undo()", x.undo(), 3);
        due.holds("all is back", before.equals(told(x)));
    }

    private void holdsFour() {
        SnoopFilter x = new SnoopFilter();
        due.is("undo() of nothing", x.undo(), NONE);
        String[] states = new String[8];
        for (int i = 0; i < 7; i++) {
            states[i] = told(x);
            x.write(i % 4, 40 + i, 100 + i);
            due.is("count(12)", x.count(12), Math.min(i + 1, 4));
        }
        for (int left = 3; left >= 0; left--) {
            due.is("undo()", x.undo(), left);
            due.holds("the state before write " + (left + 3), states[left + 3].equals(told(x)));
        }
        due.is("undo() of no more", x.undo(), NONE);
        due.is("count(12)", x.count(12), 0);
        due.holds("the oldest state stands", states[3].equals(told(x)));
    }

    private void recordsAfterUndo() {
        SnoopFilter x = new SnoopFilter();
        for (int i = 1; i <= 6; i++) {
            x.write(0, 1, i);
        }
        due.is("undo()", x.undo(), 3);
        due.is("undo() again", x.undo(), 2);
        due.is("value", x.line(1, 1), 4);
        x.write(0, 1, 9);
        x.write(0, 1, 10);
        x.write(0, 1, 11);
        due.is("count(12)", x.count(12), 4);
        due.is("undo() to 10", x.undo(), 3);
        due.is("10", x.line(1, 1), 10);
        due.is("undo() to 9", x.undo(), 2);
        due.is("9", x.line(1, 1), 9);
        due.is("undo() to 4", x.undo(), 1);
        due.is("4", x.line(1, 1), 4);
        due.is("undo() to 3", x.undo(), 0);
        due.is("3", x.line(1, 1), 3);
        due.is("undo() of no more", x.undo(), NONE);
    }

    private void actsAlone() {
        SnoopFilter x = new SnoopFilter();
        x.read(0, 0);
        x.type('x');
        x.perform();
        x.clearText();
        x.stopped(0);
        x.keep();
        x.cost(0, 1, true, 0);
        x.cost(0, 1, false, 3);
        x.vain(0);
        x.worst();
        x.set(0, 3);
        x.set(0, 10);
        x.forget(1);
        x.forget(9);
        x.drop(0, 1);
        x.read(0, 256);
        x.write(0, 0, -1);
        due.is("count(12)", x.count(12), 1);
        x.undo();
        due.is("undo() is no act", x.count(12), 0);
        due.is("undo() of nothing is none", x.undo(), NONE);
    }

    private void everyActIsUndone() {
        for (int act = 0; act < 7; act++) {
            SnoopFilter x = busy();
            x.keep();
            x.read(2, 100);
            String before = told(x);
            int answer = 0;
            switch (act) {
                case 0: answer = x.read(3, 24); break;
                case 1: answer = x.write(3, 24, 1); break;
                case 2: answer = x.drop(2, 24); break;
                case 3: answer = x.forget(3); break;
                case 4: answer = x.set(0, 4); break;
                case 5: answer = Due.perform(x, "r3.24;w0.24=7;f2"); break;
                default: answer = x.restore(); break;
            }
            due.holds("act " + act, answer >= 0);
            due.holds("act " + act + " changes", !before.equals(told(x)));
            x.undo();
            due.holds("act " + act + " is undone", before.equals(told(x)));
        }
    }

    private void keeps() {
        SnoopFilter x = new SnoopFilter();
        due.is("restore() of none", x.restore(), NONE);
        due.is("keep() of nothing", x.keep(), 0);
        x.read(0, 0);
        x.read(1, 0);
        x.write(2, 9, 1);
        due.is("keep()", x.keep(), 3);
        due.is("no act", x.count(12), 3);
        due.is("undo()", x.undo(), 2);
        due.is("restore()", x.restore(), 3);
        due.is("the snapshot is no state", x.line(9, 1), 1);
    }

    private void keepsAnew() {
        SnoopFilter x = new SnoopFilter();
        x.write(0, 1, 1);
        x.keep();
        x.write(0, 1, 2);
        x.keep();
        x.write(0, 1, 3);
        due.is("restore()", x.restore(), 1);
        due.is("value", x.line(1, 1), 2);
    }

    private void restores() {
        SnoopFilter x = busy();
        String kept = told(x);
        int held = x.count(0);
        due.is("keep()", x.keep(), held);
        x.forget(0);
        x.set(0, 7);
        String changed = told(x);
        due.is("restore()", x.restore(), held);
        due.holds("all is as kept", kept.equals(told(x)));
        due.is("undo()", x.undo(), 3);
        due.holds("the restoring is undone", changed.equals(told(x)));
        x.restore();
        x.write(3, 3, 3);
        due.is("the snapshot stays", x.restore(), held);
        due.holds("all is as kept again", kept.equals(told(x)));
        due.is("count(12)", x.count(12), 4);
        due.is("drop() of none", x.drop(3, 3), NOT_POSSIBLE);
    }

    private void restoreOfTheSame() {
        SnoopFilter x = new SnoopFilter();
        x.keep();
        due.is("restore()", x.restore(), 0);
        due.is("an act all the same", x.count(12), 1);
        due.is("undo()", x.undo(), 0);
        due.is("restore() still", x.restore(), 0);
    }
}
