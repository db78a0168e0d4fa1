import java.util.Random;

/** Long runs of calls, and what the object tells at the end of them, against the second program. The seeds are fixed. */
public final class ModelTest {
    private static final int RUNS = 2500;
    private static final int CALLS = 512;

    /** The most that one more act (a text that is typed and performed) and what is asked at the end can take. */
    private static final int LAST_CALLS = 140 + 110;

    private final Due due = new Due("ModelTest");
    private int shown;

    public static void main(String[] args) {
        ModelTest test = new ModelTest();
        for (int seed = 0; seed < RUNS && test.shown < 10; seed++) {
            test.run(seed);
        }
        test.due.close();
    }

    private void same(int seed, int call, String name, int got, int want) {
        if (got != want) {
            shown++;
        }
        if (shown <= 10) {
            due.is("seed " + seed + ", call " + call + ": " + name, got, want);
        }
    }

    /** Few lines that share places, counters and regions make hits, sticking and vain snoops frequent. */
    private static int pickLine(Random random, int seed) {
        switch (seed % 4) {
            case 0: return random.nextInt(256);
            case 1: return random.nextInt(12);
            case 2: return random.nextInt(4) * 24 + random.nextInt(2) * 5;
            default: return random.nextInt(32);
        }
    }

    private static String pickCommand(Random random, int seed) {
        int core = random.nextInt(4);
        int line = pickLine(random, seed);
        switch (random.nextInt(8)) {
            case 0: case 1: case 2: return "r" + core + "." + line;
            case 3: case 4: case 5: return "w" + core + "." + line + "=" + random.nextInt(random.nextBoolean() ? 10000 : 12);
            case 6: return "f" + core;
            default: return "d" + core + "." + line;
        }
    }

    private static String pickText(Random random, int seed) {
        StringBuilder text = new StringBuilder(pickCommand(random, seed));
        int more = random.nextInt(9);
        for (int i = 0; i < more; i++) {
            text.append(';').append(pickCommand(random, seed));
        }
        String signs = "rwdf.=;0123456789 x";
        while (random.nextInt(3) == 0) {
            int at = random.nextInt(text.length());
            char sign = signs.charAt(random.nextInt(signs.length()));
            switch (random.nextInt(3)) {
                case 0: text.setCharAt(at, sign); break;
                case 1: text.insert(at, sign); break;
                default: text.setLength(at + 1); break;
            }
        }
        return text.length() > 14 && random.nextInt(3) > 0 ? text.substring(0, 14) : text.toString();
    }

    private void run(int seed) {
        Random random = new Random(seed);
        SnoopFilter x = new SnoopFilter();
        Model model = new Model();
        int calls = 0;
        int fulls = 1 + random.nextInt(24);
        int limits = 1 + random.nextInt(9);
        while (calls < CALLS - LAST_CALLS) {
            calls += actOn(x, model, random, seed, calls, fulls, limits);
            calls += ask(x, model, random, seed, calls);
        }
        finish(x, model, seed, calls);
    }

    private int actOn(SnoopFilter x, Model m, Random random, int seed, int call, int fulls, int limits) {
        int core = random.nextInt(4);
        int line = pickLine(random, seed);
        int value = random.nextInt(10000);
        switch (random.nextInt(24)) {
            case 0: case 1: case 2: case 3: case 4: case 5: case 6: case 7:
                same(seed, call, "read(" + core + ", " + line + ")", x.read(core, line), m.read(core, line));
                return 1;
            case 8: case 9: case 10: case 11: case 12: case 13: case 14:
                same(seed, call, "write(" + core + ", " + line + ")", x.write(core, line, value), m.write(core, line, value));
                return 1;
            case 15: case 16:
                same(seed, call, "drop(" + core + ", " + line + ")", x.drop(core, line), m.drop(core, line));
                return 1;
            case 17:
                same(seed, call, "forget(" + core + ")", x.forget(core), m.forget(core));
                return 1;
            case 18:
                int limit = 1 + random.nextInt(limits);
                same(seed, call, "set(0, " + limit + ")", x.set(0, limit), m.set(0, limit));
                return 1;
            case 19:
                int full = 1 + random.nextInt(fulls);
                same(seed, call, "set(1, " + full + ")", x.set(1, full), m.set(1, full));
                return 1;
            case 20:
                same(seed, call, "undo()", x.undo(), m.undo());
                return 1;
            case 21:
                same(seed, call, "keep()", x.keep(), m.keep());
                return 1;
            case 22:
                same(seed, call, "restore()", x.restore(), m.restore());
                return 1;
            default:
                return perform(x, m, random, seed, call);
        }
    }

    private int perform(SnoopFilter x, Model m, Random random, int seed, int call) {
        int calls = 1;
        if (random.nextInt(3) > 0 || m.text().isEmpty()) {
            same(seed, call, "clearText()", x.clearText(), m.clearText());
            for (char sign : pickText(random, seed).toCharArray()) {
                same(seed, call, "type(" + sign + ")", x.type(sign), m.type(sign));
                calls++;
            }
        }
        same(seed, call, "perform() of " + m.text(), x.perform(), m.perform());
        same(seed, call, "stopped(0)", x.stopped(0), m.stopped(0));
        same(seed, call, "stopped(1)", x.stopped(1), m.stopped(1));
        return calls + 3;
    }

    private int ask(SnoopFilter x, Model m, Random random, int seed, int call) {
        int core = random.nextInt(4);
        int line = pickLine(random, seed);
        boolean writes = random.nextBoolean();
        int what = random.nextInt(4);
        switch (random.nextInt(8)) {
            case 0: case 1: case 2:
                same(seed, call, "cost(" + core + ", " + line + ", " + writes + ", " + what + ")",
                        x.cost(core, line, writes, what), m.cost(core, line, writes, what));
                return 1;
            case 3:
                same(seed, call, "vain(" + core + ")", x.vain(core), m.vain(core));
                return 1;
            case 4:
                same(seed, call, "reason(" + core + ", " + line + ")", x.reason(core, line), m.reason(core, line));
                return 1;
            case 5:
                same(seed, call, "worst()", x.worst(), m.worst());
                return 1;
            case 6:
                int count = random.nextInt(14);
                same(seed, call, "count(" + count + ")", x.count(count), m.count(count));
                return 1;
            default:
                int told = random.nextInt(6);
                same(seed, call, "line(" + line + ", " + told + ")", x.line(line, told), m.line(line, told));
                return 1;
        }
    }

    /** Asks of one core and of some lines, as there are not calls enough for all of them. */
    private void finish(SnoopFilter x, Model m, int seed, int call) {
        finishCore(x, m, seed, call, seed / 4 % 4);
        for (int what = 0; what <= 13; what++) {
            same(seed, call, "count(" + what + ")", x.count(what), m.count(what));
        }
        for (int line = seed % 25; line < 256; line += 25) {
            same(seed, call, "line(" + line + ", 0)", x.line(line, 0), m.line(line, 0));
        }
    }

    private void finishCore(SnoopFilter x, Model m, int seed, int call, int core) {
        for (int what = 0; what <= 10; what++) {
            same(seed, call, "core(" + core + ", " + what + ")", x.core(core, what), m.core(core, what));
        }
        for (int counter = 0; counter < 24; counter++) {
            same(seed, call, "counter(" + core + ", " + counter + ")", x.counter(core, counter), m.counter(core, counter));
        }
        for (int region = 0; region < 16; region++) {
            same(seed, call, "bit(" + core + ", " + region + ")", x.bit(core, region), m.bit(core, region));
        }
        for (int place = 0; place < 8; place++) {
            for (int what = 0; what <= 2; what++) {
                same(seed, call, "held(" + core + ", " + place + ", " + what + ")", x.held(core, place, what),
                        m.held(core, place, what));
            }
        }
    }
}
