/** TEXTS. */
final class TextsSentences extends Sentences {
    private static final String SECTION = "TEXTS";
    private static final String PROGRAM = "A program is a text: one or more of these with \";\" between two: \"r\", a core, \".\" and a"
            + " line (it is read); \"w\", a core, \".\", a line, \"=\" and a value (it is written); \"d\", a core, \".\" and a line (it is"
            + " dropped); \"f\" and a core (it forgets).";
    private static final String DIGITS = "A core is a digit from 0 to 3, a line 0 to 255, a value 0 to 9999.";
    private static final String NUMBERS = "Numbers have no zero in front, unless they are the single digit 0; a digit by which a"
            + " number would be greater than told is not allowed.";
    private static final String FAULT = "The fault of the text is the index, from 0, of the first character that is not allowed at"
            + " its place, or the length of the text if it ends too early (the empty text does).";

    TextsSentences(Due due, Document document) {
        super(due, document);
    }

    @Override
    void run() {
        emptyAndFull();
        oneOfEachKind();
        severalAndSeparators();
        otherKinds();
        cores();
        lines();
        values();
        zerosInFront();
        digitsTooMany();
        faultOfTheFirst();
        endsTooEarly();
        faultsOfAFullText();
    }

    private void fault(String text, int index) {
        is("perform() of " + text, Due.perform(new SnoopFilter(), text), -100 - index);
    }

    private void noFault(String text) {
        SnoopFilter x = new SnoopFilter();
        int answer = Due.perform(x, text);
        // A fresh object can drop nothing: that is a stop, and no fault.
        holds("perform() of " + text + " answered " + answer, answer == (text.contains("d") ? NOT_POSSIBLE : 0));
    }

    private void emptyAndFull() {
        about(SECTION, "There is a text of at most 80 characters, empty at first.");
        SnoopFilter x = new SnoopFilter();
        is("its length at first", x.count(13), 0);
        is("perform() at first", x.perform(), -100);
        String text = "w3.255=9999;".repeat(6) + "r0.255;f";
        is("what is typed", text.length(), 80);
        Due.retype(x, text.substring(0, 79));
        is("the length of 79", x.count(13), 79);
        is("the 80th", x.type('f'), 80);
        is("its length", x.count(13), 80);
        is("perform() of 80 reads them all", x.perform(), -180);
        is("the 81st", x.type('3'), FULL);
        is("its length then", x.count(13), 80);
        is("perform() is as before", x.perform(), -180);
    }

    private void oneOfEachKind() {
        about(SECTION, PROGRAM);
        SnoopFilter x = new SnoopFilter();
        x.write(2, 9, 70);
        is("r0.9", Due.perform(x, "r0.9"), 70);
        is("it is read", x.held(0, 1, 0), 9);
        is("w1.9=71", Due.perform(x, "w1.9=71"), 0);
        is("it is written", x.held(1, 1, 1), 71);
        is("dirty", x.held(1, 1, 2), 1);
        is("d1.9", Due.perform(x, "d1.9"), 0);
        is("it is dropped", x.held(1, 1, 0), NONE);
        is("and written back", x.line(9, 0), 71);
        x.write(1, 10, 72);
        is("f1", Due.perform(x, "f1"), 0);
        is("it forgets", x.core(1, 10), 1);
        is("its lines", x.core(1, 0), 0);
        is("its bits", x.core(1, 4), 0);
        is("its dirty line", x.line(10, 0), 72);
    }

    private void severalAndSeparators() {
        about(SECTION, PROGRAM);
        noFault("r0.0;w1.1=1;f2;r3.3");
        noFault("f0;f1");
        fault("", 0);
        fault(";", 0);
        fault(";f0", 0);
        fault("f0;", 3);
        fault("f0;;f1", 3);
        fault("f0 ;f1", 2);
        fault("f0; f1", 3);
        fault("f0,f1", 2);
        fault("f0:f1", 2);
        fault("f0<f1", 2);
        fault("f0f1", 2);
        fault("r0.5f1", 4);
        fault("w0.5=6f1", 6);
        fault("f0;f1;", 6);
        StringBuilder most = new StringBuilder("f0");
        while (most.length() < 80) {
            most.append(";f").append(most.length() % 4);
        }
        is("the most that a text has room for", most.length(), 80);
        noFault(most.toString());
    }

    private void otherKinds() {
        about(SECTION, PROGRAM);
        for (char sign = 0; sign < 256; sign++) {
            if ("rwdf".indexOf(sign) < 0) {
                fault(sign + "0.0", 0);
                fault("f0;" + sign + "0.0", 3);
            }
            if (sign != '.') {
                fault("r0" + sign + "0", 2);
                fault("w0" + sign + "0=0", 2);
                fault("d0" + sign + "0", 2);
            }
            if (sign != ';') {
                fault("f0" + sign, 2);
            }
            if (sign != '=' && (sign < '0' || sign > '9')) {
                fault("w0.5" + sign + "0", 4);
            }
            if (sign != ';' && (sign < '0' || sign > '9')) {
                fault("r0.5" + sign, 4);
                fault("d0.5" + sign, 4);
                fault("w0.5=6" + sign, 6);
            }
        }
    }

    private void cores() {
        about(SECTION, DIGITS);
        for (char sign = 0; sign < 128; sign++) {
            boolean isCore = sign == '0' || sign == '1' || sign == '2' || sign == '3';
            for (String kind : new String[] {"r_.5", "w_.5=6", "d_.5", "f_"}) {
                String text = kind.replace('_', sign);
                if (isCore) {
                    noFault(text);
                } else {
                    fault(text, 1);
                }
            }
        }
        for (int core = 0; core <= 3; core++) {
            SnoopFilter x = new SnoopFilter();
            Due.perform(x, "w" + core + ".5=6");
            is("the core of w" + core, x.line(5, 2), 1 << core);
        }
        fault("r00.5", 2);
        fault("r10.5", 2);
        fault("f12", 2);
    }

    private void lines() {
        about(SECTION, DIGITS);
        for (int line = 0; line <= 255; line++) {
            SnoopFilter x = new SnoopFilter();
            is("r0." + line, Due.perform(x, "r0." + line), 0);
            is("the line of r0." + line, x.held(0, line % 8, 0), line);
            is("w1." + line + "=7", Due.perform(x, "w1." + line + "=7"), 0);
            is("the line of w1." + line, x.line(line, 1), 7);
            is("d1." + line, Due.perform(x, "d1." + line), 0);
            is("none holds it", x.line(line, 2), 0);
        }
        for (int line = 256; line <= 999; line++) {
            fault("r0." + line, 5);
            fault("w0." + line + "=0", 5);
            fault("d0." + line, 5);
        }
        fault("r0./", 3);
        fault("r0.:", 3);
        fault("r0.-1", 3);
        fault("r0.+1", 3);
    }

    private void values() {
        about(SECTION, DIGITS);
        SnoopFilter x = null;
        for (int value = 0; value <= 9999; value++) {
            if (value % 25 == 0) {
                x = new SnoopFilter();
            }
            is("w0.1=" + value, Due.perform(x, "w0.1=" + value), 0);
            is("its value", x.held(0, 1, 1), value);
        }
        fault("w0.1=10000", 9);
        fault("w0.1=10001", 9);
        fault("w0.1=99999", 9);
        fault("w0.1=-1", 5);
        fault("w0.1=/", 5);
        fault("w0.1=:", 5);
    }

    private void zerosInFront() {
        about(SECTION, NUMBERS);
        noFault("r0.0");
        noFault("r0.0;f0");
        noFault("w0.0=0");
        noFault("w0.0=0;f0");
        for (char digit = '0'; digit <= '9'; digit++) {
            fault("r0.0" + digit, 4);
            fault("r3.0" + digit + "5", 4);
            fault("d0.0" + digit, 4);
            fault("w0.0" + digit + "=1", 4);
            fault("w0.5=0" + digit, 6);
            fault("w0.0=0" + digit + "9", 6);
        }
        noFault("r0.10");
        noFault("r0.100");
        noFault("w0.200=1000");
    }

    private void digitsTooMany() {
        about(SECTION, NUMBERS);
        for (char digit = '0'; digit <= '9'; digit++) {
            if (digit <= '5') {
                noFault("r0.25" + digit);
            } else {
                fault("r0.25" + digit, 5);
            }
            fault("r0.255" + digit, 6);
            fault("r0.26" + digit, 5);
            fault("r0.99" + digit, 5);
            fault("r0.100" + digit, 6);
            noFault("r0.24" + digit);
            noFault("w0.5=999" + digit);
            fault("w0.5=9999" + digit, 9);
            fault("w0.5=1000" + digit, 9);
        }
        fault("r0.4294967296", 5);
        fault("w0.5=4294967296", 9);
    }

    private void faultOfTheFirst() {
        about(SECTION, FAULT);
        fault("x", 0);
        fault("xyz", 0);
        fault("r4.256;x", 1);
        fault("r0.256;x", 5);
        fault("r0.0;r0.0x;y", 9);
        fault("f0;d0.0;w1.300=1", 13);
        fault("w0.5=99999;", 9);
        fault("" + (char) ('r' + 256) + "0.1", 0);
        fault("r" + (char) ('0' + 256) + ".1", 1);
        fault("r0" + (char) ('.' + 256) + "1", 2);
        fault("r0." + (char) ('1' + 256), 3);
        fault("r0.1" + (char) (';' + 256) + "f0", 4);
        fault("r0.1" + (char) 65535, 4);
        fault("r0.1" + (char) 0, 4);
    }

    private void endsTooEarly() {
        about(SECTION, FAULT);
        is("perform() of the empty text", new SnoopFilter().perform(), -100);
        String[] early = {"r", "r0", "r0.", "w", "w1", "w1.", "w1.2", "w1.25", "w1.255", "w1.25=", "d", "d2", "d2.", "f"};
        for (String text : early) {
            fault(text, text.length());
            fault("f0;" + text, 3 + text.length());
        }
        fault("f0;", 3);
        for (String text : new String[] {"r0.2", "r0.25", "r0.255", "w1.2=3", "w1.2=34", "w1.2=3456", "d2.1", "f3"}) {
            noFault(text);
            fault(text + ";", text.length() + 1);
        }
    }

    private void faultsOfAFullText() {
        about(SECTION, FAULT);
        String start = "f0;".repeat(25);
        noFault(start + "r0.25");
        noFault(start + "r0.2");
        fault(start + "r0.2;", 80);
        fault(start + "w0.2=", 80);
        fault(start + "w0.25", 80);
        fault(start + "w0.2", 79);
        fault(start + "r0.2x", 79);
        fault(start + "r0.2=", 79);
        fault(start + "r0.00", 79);
        fault(start + "x0.00", 75);
        fault("x" + start + "r0.2", 0);
    }
}
