/** Counts answers that are due and those that are not, and tells the wrong ones. */
final class Due {
    private final String name;
    private int passed;
    private int failed;

    Due(String name) {
        this.name = name;
    }

    void is(String call, long got, long want) {
        if (got == want) {
            passed++;
        } else {
            failed++;
            System.out.println(name + ": " + call + " answered " + got + ", due is " + want);
        }
    }

    void holds(String claim, boolean true_) {
        is(claim, true_ ? 1 : 0, 1);
    }

    /** Types all of a text behind an emptied one. */
    static void retype(SnoopFilter filter, String text) {
        filter.clearText();
        for (int i = 0; i < text.length(); i++) {
            filter.type(text.charAt(i));
        }
    }

    static int perform(SnoopFilter filter, String text) {
        retype(filter, text);
        return filter.perform();
    }

    void close() {
        System.out.println(name + ": " + passed + " passed, " + failed + " failed");
        if (failed > 0 || passed == 0) {
            System.exit(1);
        }
    }
}
