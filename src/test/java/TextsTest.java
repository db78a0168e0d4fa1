/** Promises 7 to 10: type, clearText, perform and stopped. */
public final class TextsTest {
    private static final int BAD_VALUE = -2;
    private static final int FULL = -3;
    private static final int NOT_POSSIBLE = -4;
    private static final int NONE = -5;

    private final Due due = new Due("TextsTest");

    public static void main(String[] args) {
        TextsTest test = new TextsTest();
        test.typing();
        test.clearing();
        test.textIsNoState();
        test.faults();
        test.programsWithoutFault();
        test.everyPrefix();
        test.performs();
        test.performGoesOnFromTheState();
        test.performIsOneAct();
        test.performStops();
        test.stopStays();
        test.faultIsNoStop();
        test.noneDoesNotStop();
        test.longestPrograms();
        test.due.close();
    }

    private void typing() {
        SnoopFilter x = new SnoopFilter();
        for (int i = 1; i <= 80; i++) {
            due.is("type " + i, x.type((char) (i * 997)), i);
        }
        due.is("type 81", x.type('r'), FULL);
        due.is("type 82", x.type((char) 65535), FULL);
        due.is("count(13)", x.count(13), 80);
        due.is("no act", x.count(12), 0);
        due.is("clearText()", x.clearText(), 80);
        due.is("type then", x.type((char) 0), 1);
        due.is("fault", x.perform(), -100);
    }

    private void clearing() {
        SnoopFilter x = new SnoopFilter();
        due.is("clearText()", x.clearText(), 0);
        Due.retype(x, "r0.1");
        due.is("clearText() of 4", x.clearText(), 4);
        due.is("count(13)", x.count(13), 0);
        due.is("clearText() again", x.clearText(), 0);
        due.is("perform() of nothing", x.perform(), -100);
        due.is("no act", x.count(12), 0);
    }

    private void textIsNoState() {
        SnoopFilter x = new SnoopFilter();
        Due.retype(x, "r0.1");
        x.keep();
        x.read(0, 0);
        x.type(';');
        due.is("undo()", x.undo(), 0);
        due.is("the text stays", x.count(13), 5);
        x.clearText();
        due.is("restore()", x.restore(), 0);
        due.is("the text stays empty", x.count(13), 0);
    }

    private void fault(String text, int index) {
        SnoopFilter x = new SnoopFilter();
        due.is("perform of " + text, Due.perform(x, text), -100 - index);
        due.is("no act after " + text, x.count(12), 0);
        due.is("no line after " + text, x.count(0), 0);
    }

    private void faults() {
        fault("", 0);
        fault("x", 0);
        fault("R0.1", 0);
        fault(" r0.1", 0);
        fault(";", 0);
        fault("0", 0);
        fault("r", 1);
        fault("w", 1);
        fault("d", 1);
        fault("f", 1);
        fault("r4.0", 1);
        fault("r9", 1);
        fault("r.0", 1);
        fault("r/", 1);
        fault("r:", 1);
        fault("f4", 1);
        fault("r0", 2);
        fault("w0", 2);
        fault("d3", 2);
        fault("r00.1", 2);
        fault("r10.1", 2);
        fault("r0;", 2);
        fault("r0=", 2);
        fault("f00", 2);
        fault("f0.", 2);
        fault("f12", 2);
        fault("r0.", 3);
        fault("r0.;", 3);
        fault("r0.-1", 3);
        fault("r0./", 3);
        fault("r0.:", 3);
        fault("r0.00", 4);
        fault("r0.05", 4);
        fault("r0.0=", 4);
        fault("r0.5=", 4);
        fault("d0.5=1", 4);
        fault("r0.5 ", 4);
        fault("r0.256", 5);
        fault("r0.255=", 6);
        fault("r0.260", 5);
        fault("r0.300", 5);
        fault("r0.999", 5);
        fault("r0.1000", 6);
        fault("r0.2550", 6);
        fault("r0.12/", 5);
        fault("r0.12:", 5);
        fault("w0.5", 4);
        fault("w0.5;", 4);
        fault("w0.255", 6);
        fault("w0.256", 5);
        fault("w0.00", 4);
        fault("w0.5=", 5);
        fault("w0.5=;", 5);
        fault("w0.5==", 5);
        fault("w0.5=00", 6);
        fault("w0.5=01", 6);
        fault("w0.5=10000", 9);
        fault("w0.5=99999", 9);
        fault("w0.5=12.", 7);
        fault("w0.5=9999=", 9);
        fault("f0;", 3);
        fault("f0;;", 3);
        fault("f0;f", 4);
        fault("f0;r3", 5);
        fault("f0;x", 3);
        fault("r0.5;w1.6=7;", 12);
        fault("r0.5;w1.6=7;d1.256", 17);
        fault("f0,f1", 2);
        fault("r0.1" + (char) (256 + ';') + "f0", 4);
        fault("" + (char) (256 + 'r') + "0.1", 0);
        fault("r" + (char) (256 + '0') + ".1", 1);
        fault("r0.1" + (char) 0x661, 4);
    }

    private void programsWithoutFault() {
        SnoopFilter x = new SnoopFilter();
        due.is("r0.0", Due.perform(x, "r0.0"), 0);
        due.is("r3.255", Due.perform(x, "r3.255"), 0);
        due.is("r0.9", Due.perform(x, "r0.9"), 0);
        due.is("r0.10", Due.perform(x, "r0.10"), 0);
        due.is("r0.99", Due.perform(x, "r0.99"), 0);
        due.is("r0.100", Due.perform(x, "r0.100"), 0);
        due.is("r0.199", Due.perform(x, "r0.199"), 0);
        due.is("r0.249", Due.perform(x, "r0.249"), 0);
        due.is("w0.0=0", Due.perform(x, "w0.0=0"), 0);
        due.is("w3.255=9999", Due.perform(x, "w3.255=9999"), 0);
        due.is("held", x.held(3, 7, 1), 9999);
        due.is("w0.1=1000", Due.perform(x, "w0.1=1000"), 0);
        due.is("w0.1=10", Due.perform(x, "w0.1=10"), 0);
        due.is("r1.1", Due.perform(x, "r1.1"), 10);
        due.is("f0", Due.perform(x, "f0"), 0);
        due.is("forgot", x.core(0, 0), 0);
        due.is("d3.255", Due.perform(x, "d3.255"), 0);
        due.is("memory", x.line(255, 0), 9999);
        due.is("the text stays", x.count(13), 6);
    }

    /** Each part of a program that ends too early has its fault at its end, or none. */
    private void everyPrefix() {
        String text = "w0.25=1234;r1.25;f2;d0.25";
        boolean[] whole = new boolean[text.length() + 1];
        for (int end : new int[] {7, 8, 9, 10, 15, 16, 19, 25}) {
            whole[end] = true;
        }
        for (int end = 0; end <= text.length(); end++) {
            SnoopFilter x = new SnoopFilter();
            int answer = Due.perform(x, text.substring(0, end));
            if (end == 24) {
                // "d0.2" drops a line that is not held.
                due.is("perform of " + end, answer, NOT_POSSIBLE);
            } else if (whole[end]) {
                due.is("perform of " + end + " is none's fault", answer >= 0 ? 1 : 0, 1);
            } else {
                due.is("perform of " + end, answer, -100 - end);
            }
        }
    }

    private void performs() {
        SnoopFilter x = new SnoopFilter();
        due.is("sum", Due.perform(x, "w0.5=9;r1.5;w2.5=8;r0.5;r0.5;f3;d2.5;f2"), 9 + 8 + 8);
        due.is("hits", x.count(7), 1);
        due.is("misses", x.count(8), 2);
        due.is("writes", x.count(9), 2);
        due.is("forgot", x.count(6), 1);
        due.is("written back", x.count(5), 2);
        due.is("held", x.line(5, 2), 1);
        due.is("again", x.perform(), 9 + 8 + 8);
        due.is("values written do not count", Due.perform(x, "w0.7=1;w0.8=2"), 0);
        due.is("writes then", x.count(9), 6);
    }

    /** What was done between two programs counts, and what was undone does not. */
    private void performGoesOnFromTheState() {
        SnoopFilter x = new SnoopFilter();
        x.write(0, 1, 4);
        due.is("sum", Due.perform(x, "r1.1"), 4);
        due.is("writes", x.count(9), 1);
        x.write(2, 1, 6);
        x.cost(3, 1, true, 0);
        due.is("sum then", x.perform(), 6);
        due.is("writes then", x.count(9), 2);
        x.undo();
        x.undo();
        due.is("sum behind undo()", x.perform(), 4);
        due.is("a hit", x.count(7), 1);
        due.is("writes behind undo()", x.count(9), 1);
    }

    private void performIsOneAct() {
        SnoopFilter x = new SnoopFilter();
        x.write(0, 1, 4);
        due.is("sum", Due.perform(x, "w0.1=5;r1.1;f0;f0"), 5);
        due.is("acts", x.count(12), 2);
        due.is("undo()", x.undo(), 1);
        due.is("value", x.held(0, 1, 1), 4);
        due.is("core 1", x.core(1, 0), 0);
        due.is("forgot", x.count(6), 0);
        due.is("of nothing but NONE", Due.perform(x, "f3"), 0);
        due.is("acts then", x.count(12), 2);
    }

    private void performStops() {
        SnoopFilter x = new SnoopFilter();
        x.write(3, 9, 6);
        due.is("stopped(0)", x.stopped(0), NONE);
        due.is("stopped(1)", x.stopped(1), NONE);
        due.is("perform()", Due.perform(x, "w0.5=9;f3;r1.9;d1.5;r1.7"), NOT_POSSIBLE);
        due.is("stopped(0) then", x.stopped(0), 3);
        due.is("stopped(1) then", x.stopped(1), NOT_POSSIBLE);
        due.is("stopped(-1)", x.stopped(-1), BAD_VALUE);
        due.is("stopped(2)", x.stopped(2), BAD_VALUE);
        due.is("nothing is done: 5", x.line(5, 1), 0);
        due.is("nothing is done: 9", x.line(9, 0), 0);
        due.is("nothing is done: 3", x.core(3, 1), 1);
        due.is("nothing is done: misses", x.count(8), 0);
        due.is("nothing is done: writes", x.count(9), 1);
        due.is("nothing is done: forgot", x.count(6), 0);
        due.is("no act", x.count(12), 1);
        due.is("the text stays", x.count(13), 24);
        due.is("undo()", x.undo(), 0);
        due.is("the stop before", x.stopped(0), 3);
    }

    private void stopStays() {
        SnoopFilter x = new SnoopFilter();
        due.is("stopped(2) at first", x.stopped(2), BAD_VALUE);
        due.is("perform()", Due.perform(x, "d0.0"), NOT_POSSIBLE);
        due.is("stopped(0)", x.stopped(0), 0);
        x.keep();
        due.is("perform() of two", Due.perform(x, "r0.1;d0.0"), NOT_POSSIBLE);
        due.is("stopped(0) then", x.stopped(0), 1);
        due.is("perform() of one", Due.perform(x, "r0.0"), 0);
        due.is("stopped(0) stays", x.stopped(0), 1);
        x.restore();
        due.is("stopped(0) is no state", x.stopped(0), 1);
        x.undo();
        x.undo();
        due.is("stopped(0) is not undone", x.stopped(0), 1);
        due.is("drop() is no stop", x.drop(0, 3), NOT_POSSIBLE);
        due.is("stopped(0) at last", x.stopped(0), 1);
    }

    private void faultIsNoStop() {
        SnoopFilter x = new SnoopFilter();
        due.is("perform()", Due.perform(x, "d0.0;"), -105);
        due.is("stopped(0)", x.stopped(0), NONE);
        due.is("stopped(1)", x.stopped(1), NONE);
    }

    private void noneDoesNotStop() {
        SnoopFilter x = new SnoopFilter();
        due.is("perform()", Due.perform(x, "f0;f1;w0.3=4;r1.3;f2"), 4);
        due.is("stopped(0)", x.stopped(0), NONE);
        due.is("forgot", x.count(6), 0);
        due.is("held", x.count(0), 2);
    }

    private void longestPrograms() {
        SnoopFilter x = new SnoopFilter();
        StringBuilder text = new StringBuilder("f0");
        for (int i = 1; i < 27; i++) {
            text.append(";f").append(i % 4);
        }
        due.is("its length", text.length(), 80);
        due.is("27 commands", Due.perform(x, text.toString()), 0);
        due.is("no 81st", x.type(';'), FULL);
        due.is("still 27 commands", x.perform(), 0);

        StringBuilder reads = new StringBuilder("w0.1=9999;w0.9=1;r0.1");
        for (int i = 0; i < 11; i++) {
            reads.append(";r1.1");
        }
        due.is("sum", Due.perform(x, reads.toString()), 12 * 9999);

        StringBuilder cut = new StringBuilder();
        for (int i = 0; i < 26; i++) {
            cut.append("f0;");
        }
        due.is("80 that end too early", Due.perform(x, cut + "r0"), -180);
        due.is("79 that end too early", Due.perform(x, cut + "f"), -179);
        due.is("78 that end too early", Due.perform(x, cut.toString()), -178);
    }
}
