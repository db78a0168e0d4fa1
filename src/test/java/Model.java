import java.util.ArrayDeque;
import java.util.ArrayList;
import java.util.Arrays;
import java.util.Deque;
import java.util.List;
import java.util.TreeMap;
import java.util.TreeSet;
import java.util.function.ToIntFunction;
import java.util.regex.Matcher;
import java.util.regex.Pattern;

/**
 * A second program of the same document, written apart from the class: its caches are maps, its texts are read by
 * a pattern, its acts are done on copies, and its costs are reckoned instead of tried.
 */
final class Model {
    private static final int UNKNOWN = -1;
    private static final int BAD_VALUE = -2;
    private static final int FULL = -3;
    private static final int NOT_POSSIBLE = -4;
    private static final int NONE = -5;
    private static final Pattern PROGRAM = pattern();

    private State now = new State();
    private State snapshot;
    private final Deque<State> history = new ArrayDeque<>();
    private String text = "";
    private int stopNumber = NONE;
    private int stopError = NONE;

    private static Pattern pattern() {
        String line = "(25[0-5]|2[0-4][0-9]|1[0-9][0-9]|[1-9]?[0-9])";
        String value = "(0|[1-9][0-9]{0,3})";
        String command = "(r[0-3]\\." + line + "|w[0-3]\\." + line + "=" + value + "|d[0-3]\\." + line + "|f[0-3])";
        return Pattern.compile(command + "(;" + command + ")*");
    }

    private static boolean in(int number, int lowest, int highest) {
        return number >= lowest && number <= highest;
    }

    private static boolean isCore(int core) {
        return in(core, 0, 3);
    }

    private static boolean isCoreAndLine(int core, int line) {
        return isCore(core) && in(line, 0, 255);
    }

    String text() {
        return text;
    }

    private void record(State before) {
        history.addLast(before);
        if (history.size() > 4) {
            history.removeFirst();
        }
    }

    /** Does one act on a copy, and keeps it only if it answers neither an error nor NONE. */
    private int act(ToIntFunction<State> deed) {
        State after = now.copy();
        int answer = deed.applyAsInt(after);
        if (answer >= 0) {
            record(now);
            now = after;
        }
        return answer;
    }

    int read(int core, int line) {
        return !isCoreAndLine(core, line) ? UNKNOWN : act(state -> state.read(core, line));
    }

    int write(int core, int line, int value) {
        if (!isCoreAndLine(core, line)) {
            return UNKNOWN;
        }
        return !in(value, 0, 9999) ? BAD_VALUE : act(state -> state.write(core, line, value));
    }

    int drop(int core, int line) {
        return !isCoreAndLine(core, line) ? UNKNOWN : act(state -> state.drop(core, line));
    }

    int forget(int core) {
        return !isCore(core) ? UNKNOWN : act(state -> state.forget(core));
    }

    int set(int which, int value) {
        if (!in(which, 0, 1)) {
            return UNKNOWN;
        }
        return !in(value, 1, which == 0 ? 9 : 24) ? BAD_VALUE : act(state -> state.set(which, value));
    }

    int type(char character) {
        if (text.length() == 80) {
            return FULL;
        }
        text += character;
        return text.length();
    }

    int clearText() {
        int length = text.length();
        text = "";
        return length;
    }

    /** Grows a beginning of the text, sign by sign, until the pattern can no longer be met behind it. */
    private static int fault(String text) {
        for (int end = 1; end <= text.length(); end++) {
            Matcher matcher = PROGRAM.matcher(text.substring(0, end));
            if (!matcher.matches() && !matcher.hitEnd()) {
                return end - 1;
            }
        }
        return PROGRAM.matcher(text).matches() ? -1 : text.length();
    }

    int perform() {
        int fault = fault(text);
        return fault >= 0 ? -100 - fault : act(this::performOn);
    }

    private int performOn(State state) {
        int sum = 0;
        String[] commands = text.split(";");
        for (int number = 0; number < commands.length; number++) {
            String[] parts = commands[number].substring(1).split("[.=]");
            int core = Integer.parseInt(parts[0]);
            int line = parts.length > 1 ? Integer.parseInt(parts[1]) : 0;
            switch (commands[number].charAt(0)) {
                case 'r': sum += state.read(core, line); break;
                case 'w': state.write(core, line, Integer.parseInt(parts[2])); break;
                case 'f': state.forget(core); break;
                default:
                    if (state.drop(core, line) < 0) {
                        stopNumber = number;
                        stopError = NOT_POSSIBLE;
                        return NOT_POSSIBLE;
                    }
            }
        }
        return sum;
    }

    int stopped(int what) {
        return !in(what, 0, 1) ? BAD_VALUE : what == 0 ? stopNumber : stopError;
    }

    int undo() {
        if (history.isEmpty()) {
            return NONE;
        }
        now = history.removeLast();
        return history.size();
    }

    int keep() {
        snapshot = now.copy();
        return now.sum(0);
    }

    int restore() {
        if (snapshot == null) {
            return NONE;
        }
        record(now);
        now = snapshot.copy();
        return now.sum(0);
    }

    int core(int core, int what) {
        return !isCore(core) ? UNKNOWN : !in(what, 0, 10) ? BAD_VALUE : now.core(core, what);
    }

    int held(int core, int place, int what) {
        if (!isCore(core)) {
            return UNKNOWN;
        }
        if (!in(place, 0, 7) || !in(what, 0, 2)) {
            return BAD_VALUE;
        }
        int line = now.victim(core, place);
        if (line < 0) {
            return NONE;
        }
        Cell cell = now.caches.get(core).get(line);
        return what == 0 ? line : what == 1 ? cell.value : cell.dirty ? 1 : 0;
    }

    int counter(int core, int counter) {
        return !isCore(core) || !in(counter, 0, 23) ? UNKNOWN : now.counters.get(core).getOrDefault(counter, 0);
    }

    int bit(int core, int region) {
        return !isCore(core) || !in(region, 0, 15) ? UNKNOWN : now.regions.get(core).contains(region) ? 1 : 0;
    }

    int line(int line, int what) {
        return !in(line, 0, 255) ? UNKNOWN : !in(what, 0, 5) ? BAD_VALUE : now.line(line, what);
    }

    int reason(int core, int line) {
        return !isCoreAndLine(core, line) ? UNKNOWN : now.reason(core, line);
    }

    int cost(int core, int line, boolean writes, int what) {
        if (!isCoreAndLine(core, line)) {
            return UNKNOWN;
        }
        return !in(what, 0, 3) ? BAD_VALUE : now.cost(core, line, writes, what);
    }

    int vain(int core) {
        return !isCore(core) ? UNKNOWN : now.vain(core);
    }

    int worst() {
        int most = 0;
        for (int core = 0; core < 4; core++) {
            most = Math.max(most, now.tallies[core][8]);
        }
        for (int core = 0; core < 4; core++) {
            if (most > 0 && now.tallies[core][8] == most) {
                return core;
            }
        }
        return NONE;
    }

    int count(int what) {
        int[] sums = {0, 1, 7, 8, 9, -1, 10, 5, 6};
        if (!in(what, 0, 13)) {
            return BAD_VALUE;
        }
        switch (what) {
            case 5: return now.back;
            case 9: return now.writes;
            case 10: return now.settings[0];
            case 11: return now.settings[1];
            case 12: return history.size();
            case 13: return text.length();
            default: return now.sum(sums[what]);
        }
    }

    private static final class Cell {
        final int value;
        final boolean dirty;

        Cell(int value, boolean dirty) {
            this.value = value;
            this.dirty = dirty;
        }
    }

    private static final class State {
        final TreeMap<Integer, Integer> memory = new TreeMap<>();
        final List<TreeMap<Integer, Cell>> caches = new ArrayList<>();
        final List<TreeMap<Integer, Integer>> counters = new ArrayList<>();
        final List<TreeSet<Integer>> stuck = new ArrayList<>();
        final List<TreeSet<Integer>> regions = new ArrayList<>();
        final int[][] tallies = new int[4][11];
        final int[] settings = {3, 20};
        int back;
        int writes;

        State() {
            for (int core = 0; core < 4; core++) {
                caches.add(new TreeMap<>());
                counters.add(new TreeMap<>());
                stuck.add(new TreeSet<>());
                regions.add(new TreeSet<>());
            }
        }

        State copy() {
            State other = new State();
            other.memory.putAll(memory);
            for (int core = 0; core < 4; core++) {
                other.caches.get(core).putAll(caches.get(core));
                other.counters.get(core).putAll(counters.get(core));
                other.stuck.get(core).addAll(stuck.get(core));
                other.regions.get(core).addAll(regions.get(core));
                other.tallies[core] = tallies[core].clone();
            }
            other.settings[0] = settings[0];
            other.settings[1] = settings[1];
            other.back = back;
            other.writes = writes;
            return other;
        }

        static List<Integer> countersOf(int line) {
            return Arrays.asList(line % 24, (7 * line + 5) % 24);
        }

        boolean may(int core, int line) {
            return regions.get(core).contains(line / 16) && counters.get(core).keySet().containsAll(countersOf(line));
        }

        boolean has(int core, int line) {
            return caches.get(core).containsKey(line);
        }

        /** The line that has to leave a core before it can begin to hold another one, or -1. */
        int victim(int core, int line) {
            for (int held : caches.get(core).keySet()) {
                if (held % 8 == line % 8) {
                    return held;
                }
            }
            return -1;
        }

        void save(int core, int line) {
            Cell cell = caches.get(core).get(line);
            if (cell.dirty) {
                memory.put(line, cell.value);
                caches.get(core).put(line, new Cell(cell.value, false));
                back++;
            }
        }

        void end(int core, int line) {
            caches.get(core).remove(line);
            for (int counter : countersOf(line)) {
                if (!stuck.get(core).contains(counter)) {
                    int left = counters.get(core).get(counter) - 1;
                    if (left == 0) {
                        counters.get(core).remove(counter);
                    } else {
                        counters.get(core).put(counter, left);
                    }
                }
            }
        }

        void learn(int core, int line) {
            regions.get(core).add(line / 16);
            for (int counter : countersOf(line)) {
                int is = counters.get(core).getOrDefault(counter, 0);
                if (is >= settings[0]) {
                    stuck.get(core).add(counter);
                }
                if (!stuck.get(core).contains(counter)) {
                    counters.get(core).put(counter, is + 1);
                }
            }
        }

        int forgetAll(int core) {
            int dropped = caches.get(core).size();
            for (int line : new ArrayList<>(caches.get(core).keySet())) {
                save(core, line);
            }
            caches.get(core).clear();
            counters.get(core).clear();
            stuck.get(core).clear();
            regions.get(core).clear();
            tallies[core][10]++;
            return dropped;
        }

        void begin(int core, int line, Cell cell) {
            int leaving = victim(core, line);
            if (leaving >= 0) {
                save(core, leaving);
                end(core, leaving);
            }
            learn(core, line);
            if (counters.get(core).size() >= settings[1]) {
                forgetAll(core);
                learn(core, line);
            }
            caches.get(core).put(line, cell);
        }

        int snoop(int core, int line, boolean takes) {
            int came = 0;
            for (int other = 0; other < 4; other++) {
                if (other == core) {
                    continue;
                }
                if (!may(other, line)) {
                    tallies[other][9]++;
                    continue;
                }
                came++;
                tallies[other][7]++;
                if (!has(other, line)) {
                    tallies[other][8]++;
                } else if (takes) {
                    end(other, line);
                } else {
                    save(other, line);
                }
            }
            return came;
        }

        int read(int core, int line) {
            if (has(core, line)) {
                tallies[core][5]++;
            } else {
                tallies[core][6]++;
                snoop(core, line, false);
                begin(core, line, new Cell(memory.getOrDefault(line, 0), false));
            }
            return caches.get(core).get(line).value;
        }

        int write(int core, int line, int value) {
            writes++;
            boolean held = has(core, line);
            int came = held && caches.get(core).get(line).dirty ? 0 : snoop(core, line, true);
            if (held) {
                caches.get(core).put(line, new Cell(value, true));
            } else {
                begin(core, line, new Cell(value, true));
            }
            return came;
        }

        int drop(int core, int line) {
            if (!has(core, line)) {
                return NOT_POSSIBLE;
            }
            int dirty = caches.get(core).get(line).dirty ? 1 : 0;
            save(core, line);
            end(core, line);
            return dirty;
        }

        int forget(int core) {
            boolean nothing = caches.get(core).isEmpty() && counters.get(core).isEmpty() && regions.get(core).isEmpty();
            return nothing ? NONE : forgetAll(core);
        }

        int set(int which, int value) {
            int previous = settings[which];
            settings[which] = value;
            return previous == value ? NONE : previous;
        }

        int dirty(int core) {
            int found = 0;
            for (Cell cell : caches.get(core).values()) {
                found += cell.dirty ? 1 : 0;
            }
            return found;
        }

        int core(int core, int what) {
            switch (what) {
                case 0: return caches.get(core).size();
                case 1: return dirty(core);
                case 2: return counters.get(core).size();
                case 3: return stuck.get(core).size();
                case 4: return regions.get(core).size();
                default: return tallies[core][what];
            }
        }

        int sum(int what) {
            int sum = 0;
            for (int core = 0; core < 4; core++) {
                sum += core(core, what);
            }
            return sum;
        }

        int reason(int core, int line) {
            if (has(core, line)) {
                return 0;
            }
            return may(core, line) ? 1 : regions.get(core).contains(line / 16) ? 3 : 2;
        }

        boolean wouldForget(int core, int line) {
            TreeMap<Integer, Integer> above = new TreeMap<>(counters.get(core));
            int leaving = victim(core, line);
            if (leaving >= 0) {
                for (int counter : countersOf(leaving)) {
                    if (!stuck.get(core).contains(counter)) {
                        above.merge(counter, -1, Integer::sum);
                    }
                }
            }
            for (int counter : countersOf(line)) {
                above.merge(counter, 1, Integer::sum);
            }
            int found = 0;
            for (int counter : above.values()) {
                found += counter > 0 ? 1 : 0;
            }
            return found >= settings[1];
        }

        int cost(int core, int line, boolean writes, int what) {
            boolean own = has(core, line);
            boolean quiet = own && (!writes || caches.get(core).get(line).dirty);
            boolean forgets = !own && wouldForget(core, line);
            int came = 0;
            int vain = 0;
            int saved = 0;
            for (int other = 0; other < 4 && !quiet; other++) {
                if (other != core && may(other, line)) {
                    came++;
                    vain += has(other, line) ? 0 : 1;
                    saved += !writes && has(other, line) && caches.get(other).get(line).dirty ? 1 : 0;
                }
            }
            int leaving = victim(core, line);
            if (!own && forgets) {
                saved += dirty(core);
            } else if (!own && leaving >= 0 && caches.get(core).get(leaving).dirty) {
                saved++;
            }
            return what == 0 ? came : what == 1 ? vain : what == 2 ? saved : forgets ? 1 : 0;
        }

        int vain(int core) {
            int found = 0;
            for (int line = 0; line < 256; line++) {
                found += reason(core, line) == 1 ? 1 : 0;
            }
            return found;
        }

        int line(int line, int what) {
            int set = 0;
            switch (what) {
                case 0:
                    return memory.getOrDefault(line, 0);
                case 1:
                    return copy().read(0, line);
                case 2:
                    for (int core = 0; core < 4; core++) {
                        set += has(core, line) ? 1 << core : 0;
                    }
                    return set;
                case 3:
                    for (int core = 0; core < 4; core++) {
                        set += may(core, line) ? 1 << core : 0;
                    }
                    return set;
                default:
                    return countersOf(line).get(what - 4);
            }
        }
    }
}
