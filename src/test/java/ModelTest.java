import java.util.ArrayDeque;
import java.util.ArrayList;
import java.util.Arrays;
import java.util.Deque;
import java.util.List;
import java.util.Random;
import java.util.TreeMap;
import java.util.TreeSet;
import java.util.regex.Matcher;
import java.util.regex.Pattern;

/**
 * Long runs of calls against a second program of the same document, written apart from the class: its caches
 * are maps, its texts are read by a pattern, and its costs are reckoned instead of tried. The seeds are fixed.
 */
public final class ModelTest {
    private static final int RUNS = 2500;
    private static final int CALLS = 512;

    /** The most that one more act (a text that is typed and performed) and what is asked at the end can take. */
    private static final int LAST_CALLS = 140 + 110;
    private static final Pattern PROGRAM = pattern();

    private final Due due = new Due("ModelTest");
    private int shown;

    public static void main(String[] args) {
        ModelTest test = new ModelTest();
        for (int seed = 0; seed < RUNS && test.shown < 10; seed++) {
            test.run(seed);
        }
        test.due.close();
    }

    private static Pattern pattern() {
        String line = "(25[0-5]|2[0-4][0-9]|1[0-9][0-9]|[1-9]?[0-9])";
        String value = "(0|[1-9][0-9]{0,3})";
        String command = "(r[0-3]\\." + line + "|w[0-3]\\." + line + "=" + value + "|d[0-3]\\." + line + "|f[0-3])";
        return Pattern.compile(command + "(;" + command + ")*");
    }

    private static final class Cell {
        final int value;
        final boolean dirty;

        Cell(int value, boolean dirty) {
            this.value = value;
            this.dirty = dirty;
        }
    }

    private static final class State {
        final TreeMap<Integer, Integer> memory = new TreeMap<>();
        final List<TreeMap<Integer, Cell>> caches = new ArrayList<>();
        final List<TreeMap<Integer, Integer>> counters = new ArrayList<>();
        final List<TreeSet<Integer>> stuck = new ArrayList<>();
        final List<TreeSet<Integer>> regions = new ArrayList<>();
        final int[][] tallies = new int[4][11];
        final int[] settings = {3, 20};
        int back;
        int writes;

        State() {
            for (int core = 0; core < 4; core++) {
                caches.add(new TreeMap<>());
                counters.add(new TreeMap<>());
                stuck.add(new TreeSet<>());
                regions.add(new TreeSet<>());
            }
        }

        State copy() {
            State other = new State();
            other.memory.putAll(memory);
            for (int core = 0; core < 4; core++) {
                other.caches.get(core).putAll(caches.get(core));
                other.counters.get(core).putAll(counters.get(core));
                other.stuck.get(core).addAll(stuck.get(core));
                other.regions.get(core).addAll(regions.get(core));
                other.tallies[core] = tallies[core].clone();
            }
            other.settings[0] = settings[0];
            other.settings[1] = settings[1];
            other.back = back;
            other.writes = writes;
            return other;
        }

        static List<Integer> countersOf(int line) {
            return Arrays.asList(line % 24, (7 * line + 5) % 24);
        }

        boolean may(int core, int line) {
            return regions.get(core).contains(line / 16) && counters.get(core).keySet().containsAll(countersOf(line));
        }

        boolean has(int core, int line) {
            return caches.get(core).containsKey(line);
        }

        /** The line that has to leave a core before it can begin to hold another one, or -1. */
        int victim(int core, int line) {
            for (int held : caches.get(core).keySet()) {
                if (held % 8 == line % 8) {
                    return held;
                }
            }
            return -1;
        }

        void save(int core, int line) {
            Cell cell = caches.get(core).get(line);
            if (cell.dirty) {
                memory.put(line, cell.value);
                caches.get(core).put(line, new Cell(cell.value, false));
                back++;
            }
        }

        void end(int core, int line) {
            caches.get(core).remove(line);
            for (int counter : countersOf(line)) {
                if (!stuck.get(core).contains(counter)) {
                    int left = counters.get(core).get(counter) - 1;
                    if (left == 0) {
                        counters.get(core).remove(counter);
                    } else {
                        counters.get(core).put(counter, left);
                    }
                }
            }
        }

        void learn(int core, int line) {
            regions.get(core).add(line / 16);
            for (int counter : countersOf(line)) {
                int is = counters.get(core).getOrDefault(counter, 0);
                if (is >= settings[0]) {
                    stuck.get(core).add(counter);
                }
                if (!stuck.get(core).contains(counter)) {
                    counters.get(core).put(counter, is + 1);
                }
            }
        }

        int forgetAll(int core) {
            int dropped = caches.get(core).size();
            for (int line : new ArrayList<>(caches.get(core).keySet())) {
                save(core, line);
            }
            caches.get(core).clear();
            counters.get(core).clear();
            stuck.get(core).clear();
            regions.get(core).clear();
            tallies[core][10]++;
            return dropped;
        }

        void begin(int core, int line, Cell cell) {
            int leaving = victim(core, line);
            if (leaving >= 0) {
                save(core, leaving);
                end(core, leaving);
            }
            learn(core, line);
            if (counters.get(core).size() >= settings[1]) {
                forgetAll(core);
                learn(core, line);
            }
            caches.get(core).put(line, cell);
        }

        int snoop(int core, int line, boolean takes) {
            int came = 0;
            for (int other = 0; other < 4; other++) {
                if (other == core) {
                    continue;
                }
                if (!may(other, line)) {
                    tallies[other][9]++;
                    continue;
                }
                came++;
                tallies[other][7]++;
                if (!has(other, line)) {
                    tallies[other][8]++;
                } else if (takes) {
                    end(other, line);
                } else {
                    save(other, line);
                }
            }
            return came;
        }

        int read(int core, int line) {
            if (has(core, line)) {
                tallies[core][5]++;
            } else {
                tallies[core][6]++;
                snoop(core, line, false);
                begin(core, line, new Cell(memory.getOrDefault(line, 0), false));
            }
            return caches.get(core).get(line).value;
        }

        int write(int core, int line, int value) {
            writes++;
            boolean held = has(core, line);
            int came = held && caches.get(core).get(line).dirty ? 0 : snoop(core, line, true);
            if (held) {
                caches.get(core).put(line, new Cell(value, true));
            } else {
                begin(core, line, new Cell(value, true));
            }
            return came;
        }

        int drop(int core, int line) {
            if (!has(core, line)) {
                return -4;
            }
            int dirty = caches.get(core).get(line).dirty ? 1 : 0;
            save(core, line);
            end(core, line);
            return dirty;
        }

        int forget(int core) {
            boolean nothing = caches.get(core).isEmpty() && counters.get(core).isEmpty() && regions.get(core).isEmpty();
            return nothing ? -5 : forgetAll(core);
        }

        int dirty(int core) {
            int found = 0;
            for (Cell cell : caches.get(core).values()) {
                found += cell.dirty ? 1 : 0;
            }
            return found;
        }

        int core(int core, int what) {
            switch (what) {
                case 0: return caches.get(core).size();
                case 1: return dirty(core);
                case 2: return counters.get(core).size();
                case 3: return stuck.get(core).size();
                case 4: return regions.get(core).size();
                default: return tallies[core][what];
            }
        }

        int sum(int what) {
            int sum = 0;
            for (int core = 0; core < 4; core++) {
                sum += core(core, what);
            }
            return sum;
        }

        int reason(int core, int line) {
            if (has(core, line)) {
                return 0;
            }
            return may(core, line) ? 1 : regions.get(core).contains(line / 16) ? 3 : 2;
        }

        boolean wouldForget(int core, int line) {
            TreeMap<Integer, Integer> above = new TreeMap<>(counters.get(core));
            int leaving = victim(core, line);
            if (leaving >= 0) {
                for (int counter : countersOf(leaving)) {
                    if (!stuck.get(core).contains(counter)) {
                        above.merge(counter, -1, Integer::sum);
                    }
                }
            }
            for (int counter : countersOf(line)) {
                above.merge(counter, 1, Integer::sum);
            }
            int found = 0;
            for (int counter : above.values()) {
                found += counter > 0 ? 1 : 0;
            }
            return found >= settings[1];
        }

        int cost(int core, int line, boolean writes, int what) {
            boolean own = has(core, line);
            boolean quiet = own && (!writes || caches.get(core).get(line).dirty);
            boolean forgets = !own && wouldForget(core, line);
            int came = 0;
            int vain = 0;
            int saved = 0;
            for (int other = 0; other < 4 && !quiet; other++) {
                if (other != core && may(other, line)) {
                    came++;
                    vain += has(other, line) ? 0 : 1;
                    saved += !writes && has(other, line) && caches.get(other).get(line).dirty ? 1 : 0;
                }
            }
            int leaving = victim(core, line);
            if (!own && forgets) {
                saved += dirty(core);
            } else if (!own && leaving >= 0 && caches.get(core).get(leaving).dirty) {
                saved++;
            }
            return what == 0 ? came : what == 1 ? vain : what == 2 ? saved : forgets ? 1 : 0;
        }

        int vain(int core) {
            int found = 0;
            for (int line = 0; line < 256; line++) {
                found += reason(core, line) == 1 ? 1 : 0;
            }
            return found;
        }

        int line(int line, int what) {
            int set = 0;
            switch (what) {
                case 0:
                    return memory.getOrDefault(line, 0);
                case 1:
                    return copy().read(0, line);
                case 2:
                    for (int core = 0; core < 4; core++) {
                        set += has(core, line) ? 1 << core : 0;
                    }
                    return set;
                case 3:
                    for (int core = 0; core < 4; core++) {
                        set += may(core, line) ? 1 << core : 0;
                    }
                    return set;
                default:
                    return countersOf(line).get(what - 4);
            }
        }
    }

    private static final class Model {
        State now = new State();
        State snapshot;
        final Deque<State> history = new ArrayDeque<>();
        String text = "";
        int stopNumber = -1;

        private void record(State before) {
            history.addLast(before);
            if (history.size() > 4) {
                history.removeFirst();
            }
        }

        /** Does one act on a copy, and keeps it only if it answers neither an error nor NONE. */
        int act(int kind, int core, int line, int value) {
            State after = now.copy();
            int answer;
            switch (kind) {
                case 0: answer = after.read(core, line); break;
                case 1: answer = after.write(core, line, value); break;
                case 2: answer = after.drop(core, line); break;
                default: answer = after.forget(core); break;
            }
            if (answer >= 0) {
                record(now);
                now = after;
            }
            return answer;
        }

        int set(int which, int value) {
            int previous = now.settings[which];
            if (previous == value) {
                return -5;
            }
            record(now);
            now = now.copy();
            now.settings[which] = value;
            return previous;
        }

        static int fault(String text) {
            for (int end = 1; end <= text.length(); end++) {
                Matcher matcher = PROGRAM.matcher(text.substring(0, end));
                if (!matcher.matches() && !matcher.hitEnd()) {
                    return end - 1;
                }
            }
            return PROGRAM.matcher(text).matches() ? -1 : text.length();
        }

        int perform() {
            int fault = fault(text);
            if (fault >= 0) {
                return -100 - fault;
            }
            State after = now.copy();
            int sum = 0;
            String[] commands = text.split(";");
            for (int number = 0; number < commands.length; number++) {
                String[] parts = commands[number].substring(1).split("[.=]");
                int core = Integer.parseInt(parts[0]);
                int line = parts.length > 1 ? Integer.parseInt(parts[1]) : 0;
                switch (commands[number].charAt(0)) {
                    case 'r': sum += after.read(core, line); break;
                    case 'w': after.write(core, line, Integer.parseInt(parts[2])); break;
                    case 'f': after.forget(core); break;
                    default:
                        if (after.drop(core, line) < 0) {
                            stopNumber = number;
                            return -4;
                        }
                }
            }
            record(now);
            now = after;
            return sum;
        }

        int undo() {
            if (history.isEmpty()) {
                return -5;
            }
            now = history.removeLast();
            return history.size();
        }

        int keep() {
            snapshot = now.copy();
            return now.sum(0);
        }

        int restore() {
            if (snapshot == null) {
                return -5;
            }
            record(now);
            now = snapshot.copy();
            return now.sum(0);
        }

        int worst() {
            int most = 0;
            for (int core = 0; core < 4; core++) {
                most = Math.max(most, now.tallies[core][8]);
            }
            for (int core = 0; core < 4; core++) {
                if (most > 0 && now.tallies[core][8] == most) {
                    return core;
                }
            }
            return -5;
        }

        int count(int what) {
            int[] sums = {0, 1, 7, 8, 9, -1, 10, 5, 6};
            switch (what) {
                case 5: return now.back;
                case 9: return now.writes;
                case 10: return now.settings[0];
                case 11: return now.settings[1];
                case 12: return history.size();
                case 13: return text.length();
                default: return now.sum(sums[what]);
            }
        }
    }

    private void same(int seed, int call, String name, int got, int want) {
        if (got != want) {
            shown++;
        }
        if (shown <= 10) {
            due.is("seed " + seed + ", call " + call + ": " + name, got, want);
        }
    }

    /** Few lines that share places, counters and regions make hits, sticking and vain snoops frequent. */
    private static int pickLine(Random random, int seed) {
        switch (seed % 4) {
            case 0: return random.nextInt(256);
            case 1: return random.nextInt(12);
            case 2: return random.nextInt(4) * 24 + random.nextInt(2) * 5;
            default: return random.nextInt(32);
        }
    }

    private static String pickCommand(Random random, int seed) {
        int core = random.nextInt(4);
        int line = pickLine(random, seed);
        switch (random.nextInt(8)) {
            case 0: case 1: case 2: return "r" + core + "." + line;
            case 3: case 4: case 5: return "w" + core + "." + line + "=" + random.nextInt(random.nextBoolean() ? 10000 : 12);
            case 6: return "f" + core;
            default: return "d" + core + "." + line;
        }
    }

    private static String pickText(Random random, int seed) {
        StringBuilder text = new StringBuilder(pickCommand(random, seed));
        int more = random.nextInt(9);
        for (int i = 0; i < more; i++) {
            text.append(';').append(pickCommand(random, seed));
        }
        String signs = "rwdf.=;0123456789 x";
        while (random.nextInt(3) == 0) {
            int at = random.nextInt(text.length());
            char sign = signs.charAt(random.nextInt(signs.length()));
            switch (random.nextInt(3)) {
                case 0: text.setCharAt(at, sign); break;
                case 1: text.insert(at, sign); break;
                default: text.setLength(at + 1); break;
            }
        }
        return text.length() > 14 && random.nextInt(3) > 0 ? text.substring(0, 14) : text.toString();
    }

    private void run(int seed) {
        Random random = new Random(seed);
        SnoopFilter x = new SnoopFilter();
        Model model = new Model();
        int calls = 0;
        int fulls = 1 + random.nextInt(24);
        int limits = 1 + random.nextInt(9);
        while (calls < CALLS - LAST_CALLS) {
            calls += actOn(x, model, random, seed, calls, fulls, limits);
            calls += ask(x, model, random, seed, calls);
        }
        finish(x, model, seed, calls);
    }

    private int actOn(SnoopFilter x, Model m, Random random, int seed, int call, int fulls, int limits) {
        int core = random.nextInt(4);
        int line = pickLine(random, seed);
        int value = random.nextInt(10000);
        switch (random.nextInt(24)) {
            case 0: case 1: case 2: case 3: case 4: case 5: case 6: case 7:
                same(seed, call, "read(" + core + ", " + line + ")", x.read(core, line), m.act(0, core, line, 0));
                return 1;
            case 8: case 9: case 10: case 11: case 12: case 13: case 14:
                same(seed, call, "write(" + core + ", " + line + ")", x.write(core, line, value), m.act(1, core, line, value));
                return 1;
            case 15: case 16:
                same(seed, call, "drop(" + core + ", " + line + ")", x.drop(core, line), m.act(2, core, line, 0));
                return 1;
            case 17:
                same(seed, call, "forget(" + core + ")", x.forget(core), m.act(3, core, 0, 0));
                return 1;
            case 18:
                int limit = 1 + random.nextInt(limits);
                same(seed, call, "set(0, " + limit + ")", x.set(0, limit), m.set(0, limit));
                return 1;
            case 19:
                int full = 1 + random.nextInt(fulls);
                same(seed, call, "set(1, " + full + ")", x.set(1, full), m.set(1, full));
                return 1;
            case 20:
                same(seed, call, "undo()", x.undo(), m.undo());
                return 1;
            case 21:
                same(seed, call, "keep()", x.keep(), m.keep());
                return 1;
            case 22:
                same(seed, call, "restore()", x.restore(), m.restore());
                return 1;
            default:
                return perform(x, m, random, seed, call);
        }
    }

    private int perform(SnoopFilter x, Model m, Random random, int seed, int call) {
        int calls = 1;
        if (random.nextInt(3) > 0 || m.text.isEmpty()) {
            same(seed, call, "clearText()", x.clearText(), m.text.length());
            m.text = "";
            for (char sign : pickText(random, seed).toCharArray()) {
                int want = m.text.length() == 80 ? -3 : m.text.length() + 1;
                m.text = want < 0 ? m.text : m.text + sign;
                same(seed, call, "type(" + sign + ")", x.type(sign), want);
                calls++;
            }
        }
        same(seed, call, "perform() of " + m.text, x.perform(), m.perform());
        same(seed, call, "stopped(0)", x.stopped(0), m.stopNumber < 0 ? -5 : m.stopNumber);
        same(seed, call, "stopped(1)", x.stopped(1), m.stopNumber < 0 ? -5 : -4);
        return calls + 3;
    }

    private int ask(SnoopFilter x, Model m, Random random, int seed, int call) {
        int core = random.nextInt(4);
        int line = pickLine(random, seed);
        boolean writes = random.nextBoolean();
        int what = random.nextInt(4);
        switch (random.nextInt(8)) {
            case 0: case 1: case 2:
                same(seed, call, "cost(" + core + ", " + line + ", " + writes + ", " + what + ")",
                        x.cost(core, line, writes, what), m.now.cost(core, line, writes, what));
                return 1;
            case 3:
                same(seed, call, "vain(" + core + ")", x.vain(core), m.now.vain(core));
                return 1;
            case 4:
                same(seed, call, "reason(" + core + ", " + line + ")", x.reason(core, line), m.now.reason(core, line));
                return 1;
            case 5:
                same(seed, call, "worst()", x.worst(), m.worst());
                return 1;
            case 6:
                int count = random.nextInt(14);
                same(seed, call, "count(" + count + ")", x.count(count), m.count(count));
                return 1;
            default:
                int told = random.nextInt(6);
                same(seed, call, "line(" + line + ", " + told + ")", x.line(line, told), m.now.line(line, told));
                return 1;
        }
    }

    /** Asks of one core and of some lines, as there are not calls enough for all of them. */
    private void finish(SnoopFilter x, Model m, int seed, int call) {
        finishCore(x, m, seed, call, seed / 4 % 4);
        for (int what = 0; what <= 13; what++) {
            same(seed, call, "count(" + what + ")", x.count(what), m.count(what));
        }
        for (int line = seed % 25; line < 256; line += 25) {
            same(seed, call, "line(" + line + ", 0)", x.line(line, 0), m.now.line(line, 0));
        }
    }

    private void finishCore(SnoopFilter x, Model m, int seed, int call, int core) {
        for (int what = 0; what <= 10; what++) {
            same(seed, call, "core(" + core + ", " + what + ")", x.core(core, what), m.now.core(core, what));
        }
        for (int counter = 0; counter < 24; counter++) {
            same(seed, call, "counter(" + core + ", " + counter + ")", x.counter(core, counter),
                    m.now.counters.get(core).getOrDefault(counter, 0));
        }
        for (int region = 0; region < 16; region++) {
            same(seed, call, "bit(" + core + ", " + region + ")", x.bit(core, region),
                    m.now.regions.get(core).contains(region) ? 1 : 0);
        }
        for (int place = 0; place < 8; place++) {
            int line = m.now.victim(core, place);
            Cell cell = m.now.caches.get(core).get(line);
            same(seed, call, "held line", x.held(core, place, 0), cell == null ? -5 : line);
            same(seed, call, "held value", x.held(core, place, 1), cell == null ? -5 : cell.value);
            same(seed, call, "held dirty", x.held(core, place, 2), cell == null ? -5 : cell.dirty ? 1 : 0);
        }
    }
}
