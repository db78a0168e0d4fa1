import java.util.ArrayList;
import java.util.Arrays;
import java.util.List;
import java.util.Random;
import java.util.TreeMap;

/**
 * Runs of all the 512 calls that an object is used for, each method among them, with arguments in their ranges and
 * out of them: each answer is that of the second program. What has come about often enough is looked at in the end.
 */
public final class LongRunsTest {
    private static final int RUNS = 3000;
    private static final int CALLS = 512;
    private static final int[] CORE = {0, 3};
    private static final int[] LINE = {0, 255};
    private static final int[] VALUE = {0, 9999};
    private static final int[] FLAG = {0, 1};
    private static final String SIGNS = "rwdf.=;0123456789 x\u0000\u00e9\uffff";
    private static final List<Call> CALL_LIST = calls();

    private final Due due = new Due("LongRunsTest");
    private final TreeMap<String, Integer> answers = new TreeMap<>();
    private int wrong;

    private interface OfClass {
        int on(SnoopFilter x, int[] a);
    }

    private interface OfModel {
        int on(Model m, int[] a);
    }

    private record Call(String name, int weight, OfClass ofClass, OfModel ofModel, int[][] ranges) {
    }

    public static void main(String[] args) {
        LongRunsTest test = new LongRunsTest();
        for (int seed = 0; seed < RUNS && test.wrong < 10; seed++) {
            test.new Run(seed).go();
        }
        test.everythingCame();
        test.due.close();
    }

    private static Call call(String name, int weight, OfClass ofClass, OfModel ofModel, int[]... ranges) {
        return new Call(name, weight, ofClass, ofModel, ranges);
    }

    private static int[] upTo(int highest) {
        return new int[] {0, highest};
    }

    private static List<Call> calls() {
        return List.of(
                call("read", 24, (x, a) -> x.read(a[0], a[1]), (m, a) -> m.read(a[0], a[1]), CORE, LINE),
                call("write", 18, (x, a) -> x.write(a[0], a[1], a[2]), (m, a) -> m.write(a[0], a[1], a[2]), CORE, LINE, VALUE),
                call("drop", 6, (x, a) -> x.drop(a[0], a[1]), (m, a) -> m.drop(a[0], a[1]), CORE, LINE),
                call("forget", 2, (x, a) -> x.forget(a[0]), (m, a) -> m.forget(a[0]), CORE),
                call("set", 3, (x, a) -> x.set(a[0], a[1]), (m, a) -> m.set(a[0], a[1]), FLAG, new int[] {1, 24}),
                call("type", 2, (x, a) -> x.type((char) a[0]), (m, a) -> m.type((char) a[0]), upTo(65535)),
                call("clearText", 1, (x, a) -> x.clearText(), (m, a) -> m.clearText()),
                call("perform", 5, (x, a) -> x.perform(), (m, a) -> m.perform()),
                call("stopped", 3, (x, a) -> x.stopped(a[0]), (m, a) -> m.stopped(a[0]), FLAG),
                call("undo", 4, (x, a) -> x.undo(), (m, a) -> m.undo()),
                call("keep", 2, (x, a) -> x.keep(), (m, a) -> m.keep()),
                call("restore", 3, (x, a) -> x.restore(), (m, a) -> m.restore()),
                call("core", 3, (x, a) -> x.core(a[0], a[1]), (m, a) -> m.core(a[0], a[1]), CORE, upTo(10)),
                call("held", 3, (x, a) -> x.held(a[0], a[1], a[2]), (m, a) -> m.held(a[0], a[1], a[2]), CORE, upTo(7), upTo(2)),
                call("counter", 3, (x, a) -> x.counter(a[0], a[1]), (m, a) -> m.counter(a[0], a[1]), CORE, upTo(23)),
                call("bit", 2, (x, a) -> x.bit(a[0], a[1]), (m, a) -> m.bit(a[0], a[1]), CORE, upTo(15)),
                call("line", 3, (x, a) -> x.line(a[0], a[1]), (m, a) -> m.line(a[0], a[1]), LINE, upTo(5)),
                call("reason", 3, (x, a) -> x.reason(a[0], a[1]), (m, a) -> m.reason(a[0], a[1]), CORE, LINE),
                call("cost", 4, (x, a) -> x.cost(a[0], a[1], a[2] == 1, a[3]),
                        (m, a) -> m.cost(a[0], a[1], a[2] == 1, a[3]), CORE, LINE, FLAG, upTo(3)),
                call("vain", 2, (x, a) -> x.vain(a[0]), (m, a) -> m.vain(a[0]), CORE),
                call("worst", 2, (x, a) -> x.worst(), (m, a) -> m.worst()),
                call("count", 4, (x, a) -> x.count(a[0]), (m, a) -> m.count(a[0]), upTo(13)));
    }

    private static Call named(String name) {
        for (Call each : CALL_LIST) {
            if (each.name.equals(name)) {
                return each;
            }
        }
        throw new IllegalArgumentException(name);
    }

    private void came(String name, int answer) {
        String kind = answer >= 0 ? "number" : answer >= -5 ? "" + answer : "fault";
        answers.merge(name + " " + kind, 1, Integer::sum);
    }

    /** A run of calls that never met an answer would not show it wrong. */
    private void everythingCame() {
        String all = "read number, read -1, write number, write -1, write -2, drop number, drop -1, drop -4, forget number,"
                + " forget -1, forget -5, set number, set -1, set -2, set -5, type number, type -3, clearText number,"
                + " perform number, perform fault, perform -4, stopped number, stopped -2, stopped -4, stopped -5,"
                + " undo number, undo -5, keep number, restore number, restore -5, core number, core -1, core -2,"
                + " held number, held -1, held -2, held -5, counter number, counter -1, bit number, bit -1, line number,"
                + " line -1, line -2, reason number, reason -1, cost number, cost -1, cost -2, vain number, vain -1,"
                + " worst number, worst -5, count number, count -2";
        for (String each : all.split(", ")) {
            int times = answers.getOrDefault(each, 0);
            due.holds(each + " came " + times + " times", times >= 100);
        }
        due.is("answers of other kinds", answers.size(), all.split(", ").length);
    }

    /** One object and one model, and what lets their calls meet: few lines, texts typed to their end, kept settings. */
    private final class Run {
        private final int seed;
        private final Random random;
        private final SnoopFilter x = new SnoopFilter();
        private final Model model = new Model();
        private final int[] lines;
        private final int cores;
        private final int oddOneIn;
        private final int lowestFull;
        private String toType = "";
        private boolean isTyped;

        Run(int seed) {
            this.seed = seed;
            random = new Random(7919L * seed + 13);
            lines = new int[2 + random.nextInt(20)];
            int kind = random.nextInt(4);
            for (int i = 0; i < lines.length; i++) {
                lines[i] = kind == 0 ? random.nextInt(256) : kind == 1 ? 8 * random.nextInt(32) : kind == 2
                        ? random.nextInt(48) : 24 * random.nextInt(10) + 5 * random.nextInt(3);
            }
            cores = 1 + random.nextInt(4);
            oddOneIn = random.nextInt(4) == 0 ? 6 : 60;
            lowestFull = random.nextInt(3) == 0 ? 1 : 8 + random.nextInt(12);
        }

        void go() {
            for (int number = 1; number <= CALLS && wrong < 10; number++) {
                Call call = nextCall();
                int[] a = argumentsOf(call);
                int want = call.ofModel.on(model, a);
                int got = call.ofClass.on(x, a);
                came(call.name, want);
                wrong += got == want ? 0 : 1;
                due.is("seed " + seed + ", call " + number + ": " + call.name + Arrays.toString(a), got, want);
            }
        }

        private Call nextCall() {
            if (!toType.isEmpty() && random.nextInt(30) > 0) {
                return named("type");
            }
            if (isTyped && random.nextInt(4) > 0) {
                isTyped = false;
                return named("perform");
            }
            int weights = CALL_LIST.stream().mapToInt(Call::weight).sum();
            int at = random.nextInt(weights);
            for (Call each : CALL_LIST) {
                at -= each.weight;
                if (at < 0) {
                    return each;
                }
            }
            return CALL_LIST.get(0);
        }

        private int[] argumentsOf(Call call) {
            int[] a = new int[call.ranges.length];
            if (call.name.equals("type")) {
                a[0] = nextSign();
                return a;
            }
            for (int i = 0; i < a.length; i++) {
                a[i] = random.nextInt(oddOneIn) == 0 ? outside(call.ranges[i]) : inside(call.ranges[i]);
            }
            // A filter that is full again and again hides much else.
            if (call.name.equals("set") && a[0] == 1 && a[1] < lowestFull && random.nextInt(20) > 0) {
                a[1] = Math.min(24, lowestFull + random.nextInt(8));
            } else if (call.name.equals("set") && a[0] == 0 && random.nextInt(3) > 0) {
                a[1] = 1 + random.nextInt(3);
            }
            return a;
        }

        private int inside(int[] range) {
            if (range == CORE) {
                return random.nextInt(cores);
            }
            if (range == LINE && random.nextInt(12) > 0) {
                return lines[random.nextInt(lines.length)];
            }
            if (range == VALUE && random.nextInt(6) == 0) {
                return range[random.nextInt(2)];
            }
            return range[0] + random.nextInt(range[1] - range[0] + 1);
        }

        private int outside(int[] range) {
            switch (random.nextInt(5)) {
                case 0: return Integer.MIN_VALUE;
                case 1: return Integer.MAX_VALUE;
                case 2: return range[0] - 1;
                case 3: return range[1] + 2 + random.nextInt(300);
                default: return range[1] + 1;
            }
        }

        private char nextSign() {
            if (toType.isEmpty()) {
                toType = piece();
            }
            char sign = toType.charAt(0);
            toType = toType.substring(1);
            isTyped = toType.isEmpty();
            return sign;
        }

        /** Mostly what goes on with the text as it stands; at times with one sign that is wrong or one too many. */
        private String piece() {
            StringBuilder text = new StringBuilder();
            int commands = 1 + random.nextInt(random.nextInt(5) == 0 ? 14 : 4);
            for (int i = 0; i < commands; i++) {
                boolean first = text.length() == 0 && model.text().isEmpty();
                text.append(first ? "" : ";").append(command());
            }
            if (random.nextInt(4) == 0) {
                int at = random.nextInt(text.length());
                char sign = SIGNS.charAt(random.nextInt(SIGNS.length()));
                if (random.nextBoolean()) {
                    text.setCharAt(at, sign);
                } else {
                    text.insert(at, sign);
                }
            }
            return text.toString();
        }

        private String command() {
            int core = inside(CORE);
            int line = inside(LINE);
            switch (random.nextInt(8)) {
                case 0: case 1: case 2:
                    return "r" + core + "." + line;
                case 3: case 4:
                    return "w" + core + "." + line + "=" + inside(VALUE);
                case 5:
                    return "f" + core;
                default:
                    return "d" + dropped(core, line);
            }
        }

        /** Mostly a line that is held by now, so that not every program stops. */
        private String dropped(int core, int line) {
            List<String> held = new ArrayList<>();
            for (int each = 0; each < 4; each++) {
                for (int place = 0; place < 8; place++) {
                    if (model.held(each, place, 0) >= 0) {
                        held.add(each + "." + model.held(each, place, 0));
                    }
                }
            }
            boolean isFree = held.isEmpty() || random.nextInt(4) == 0;
            return isFree ? core + "." + line : held.get(random.nextInt(held.size()));
        }
    }
}
