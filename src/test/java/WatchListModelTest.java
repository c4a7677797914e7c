import java.util.ArrayDeque;
import java.util.ArrayList;
import java.util.Arrays;
import java.util.HashMap;
import java.util.List;
import java.util.Map;
import java.util.Random;
import java.util.TreeMap;

/**
 * Long runs of mixed calls, compared with a second telling of the document that is held in the
 * library's collections. The seed is fixed, so that every run of the test makes the same calls.
 */
public final class WatchListModelTest {
    private static final int RUNS = 4000;
    private static final int CALLS = 512;

    public static void main(String[] args) {
        Random random = new Random(20261115L);
        for (int run = 0; run < RUNS && Due.allRight(); run++) {
            oneRun(run, random);
        }
        Due.end();
    }

    private static void oneRun(int run, Random random) {
        WatchList x = new WatchList();
        Model m = new Model();
        // Few ids and events make calls meet; many let the limits and the queue fill up.
        Draw draw = new Draw(random, run % 4);
        for (int call = 0; call < CALLS && Due.allRight(); call++) {
            oneCall("run " + run + ", call " + call + ": ", x, m, draw);
        }
    }

    private static void oneCall(String at, WatchList x, Model m, Draw d) {
        int id = d.id();
        int e = d.event();
        int k = d.parameter();
        int v = d.value();
        boolean on = d.on();
        switch (d.kind()) {
            case 0 -> Due.is(at + "set " + k + " " + v, x.set(k, v), m.set(k, v));
            case 1 -> {
                int times = d.times();
                int high = v + d.width();
                String call = at + "add " + id + " " + k + " " + times + " " + v + " " + high;
                Due.is(call, x.add(id, k, times, v, high, e, on), m.add(id, k, times, v, high, e, on));
            }
            case 2 -> Due.is(at + "remove " + id, x.remove(id), m.remove(id));
            case 3 -> Due.is(at + "enable " + id + " " + on, x.enable(id, on), m.enable(id, on));
            case 4 -> Due.is(at + "watch", x.watch(), m.watch());
            case 5 -> Due.is(at + "raise " + e + " " + v, x.raise(e, v), m.raise(e, v));
            case 6 -> Due.is(at + "work", x.work(), m.work());
            case 7 -> Due.is(at + "lose", x.lose(), m.lose());
            case 8 -> Due.is(at + "tell " + e + " " + on, x.tell(e, on), m.tell(e, on));
            case 9 -> Due.is(at + "put " + v, x.put(v), m.put(v));
            case 10 -> Due.is(at + "act " + e, x.act(e), m.act(e));
            case 11 -> Due.is(at + "drop " + e, x.drop(e), m.drop(e));
            case 12 -> Due.is(at + "arm " + e + " " + on, x.arm(e, on), m.arm(e, on));
            default -> oneQuestion(at, x, m, d);
        }
    }

    private static void oneQuestion(String at, WatchList x, Model m, Draw d) {
        int id = d.id();
        int e = d.event();
        int k = d.place();
        int what = d.what();
        switch (d.question()) {
            case 0 -> Due.is(at + "limit " + id + " " + what, x.limit(id, what), m.limit(id, what));
            case 1 -> Due.is(at + "event " + e + " " + what, x.event(e, what), m.event(e, what));
            case 2 -> Due.is(at + "actionAt " + e + " " + k, x.actionAt(e, k), m.actionAt(e, k));
            case 3 -> Due.is(at + "linked", x.linked(), m.linkedBroken);
            default -> Due.is(at + "count " + what, x.count(what), m.count(what));
        }
    }

    /** Draws arguments: mostly right ones, some at the edges, some wrong. */
    private static final class Draw {
        private static final int[] WEIGHTS = {8, 7, 3, 9, 14, 6, 4, 1, 2, 12, 3, 2, 3, 40};
        private static final int[] RAISING = {8, 7, 3, 9, 25, 25, 4, 0, 2, 4, 2, 2, 2, 30};
        private static final int[] WRITING = {2, 2, 1, 2, 3, 2, 2, 1, 2, 400, 1, 1, 1, 40};
        private final Random random;
        private final int ids;
        private final int events;
        private final int[] weights;

        Draw(Random random, int kind) {
            this.random = random;
            ids = kind == 0 ? 6 : kind == 1 ? 256 : 24;
            events = kind == 0 ? 3 : 32;
            weights = kind == 2 ? RAISING : kind == 3 ? WRITING : WEIGHTS;
        }

        int kind() {
            int left = random.nextInt(Arrays.stream(weights).sum());
            for (int i = 0; i < weights.length; i++) {
                left -= weights[i];
                if (left < 0) {
                    return i;
                }
            }
            return weights.length;
        }

        int id() {
            return rarely() ? odd(256) : random.nextInt(ids);
        }

        int event() {
            return rarely() ? odd(32) : random.nextInt(events);
        }

        int parameter() {
            return rarely() ? odd(32) : random.nextInt(4);
        }

        int times() {
            return rarely() ? odd(256) : 1 + random.nextInt(3);
        }

        int value() {
            return rarely() ? random.nextInt() : random.nextInt(9) - 4;
        }

        int width() {
            return rarely() ? random.nextInt() : random.nextInt(5);
        }

        int place() {
            return rarely() ? odd(256) : random.nextInt(8);
        }

        int what() {
            return rarely() ? odd(6) : random.nextInt(7) - 1;
        }

        int question() {
            return random.nextInt(5);
        }

        boolean on() {
            return random.nextInt(3) != 0;
        }

        private boolean rarely() {
            return random.nextInt(12) == 0;
        }

        private int odd(int bound) {
            int[] some = {-1, 0, bound - 1, bound, Integer.MIN_VALUE, Integer.MAX_VALUE, random.nextInt()};
            return some[random.nextInt(some.length)];
        }
    }

    private record Rule(int parameter, int times, long low, long high, int event, boolean linked) {
    }

    private record Raised(int event, int number) {
    }

    private static final class Model {
        private final Map<Integer, Integer> values = new HashMap<>();
        private final TreeMap<Integer, Rule> rules = new TreeMap<>();
        private final Map<Integer, Integer> countsOfThoseOn = new HashMap<>();
        private final ArrayDeque<Raised> queue = new ArrayDeque<>();
        private final Map<Integer, Boolean> told = new HashMap<>();
        private final Map<Integer, List<Integer>> actions = new HashMap<>();
        private final Map<Integer, Boolean> armed = new HashMap<>();
        private List<Integer> text = new ArrayList<>();
        private boolean linkedBroken;
        private int broken;
        private int lost;
        private int worked;

        private static boolean among(int n, int bound) {
            return 0 <= n && n <= bound - 1;
        }

        boolean set(int k, int v) {
            if (among(k, 32)) {
                values.put(k, v);
            }
            return among(k, 32);
        }

        int add(int id, int k, int times, int low, int high, int e, boolean linked) {
            if (times < 1 || times > 255 || low > high || !among(k, 32) || !among(e, 32) || !among(id, 256)) {
                return 13;
            }
            if (rules.containsKey(id)) {
                return 25;
            }
            if (rules.size() == 16) {
                return 26;
            }
            rules.put(id, new Rule(k, times, low, high, e, linked));
            return 0;
        }

        int remove(int id) {
            if (!rules.containsKey(id)) {
                return 27;
            }
            if (countsOfThoseOn.containsKey(id)) {
                return 15;
            }
            rules.remove(id);
            return 0;
        }

        int enable(int id, boolean on) {
            if (!rules.containsKey(id)) {
                return 27;
            }
            countsOfThoseOn.remove(id);
            if (on) {
                countsOfThoseOn.put(id, 0);
            }
            return 0;
        }

        int watch() {
            int before = broken;
            linkedBroken = false;
            rules.forEach((id, rule) -> {
                Integer count = countsOfThoseOn.get(id);
                if (count != null) {
                    watchOne(id, rule, count);
                }
            });
            return broken - before;
        }

        private void watchOne(int id, Rule rule, int count) {
            int value = values.getOrDefault(rule.parameter(), 0);
            boolean inside = rule.low() <= value && value <= rule.high();
            countsOfThoseOn.put(id, inside ? 0 : count + 1);
            if (!inside && count + 1 == rule.times()) {
                broken++;
                linkedBroken |= rule.linked();
                raise(rule.event(), value);
            }
        }

        boolean raise(int e, int number) {
            if (!among(e, 32)) {
                return false;
            }
            if (queue.size() == 64) {
                lost++;
                return false;
            }
            return queue.add(new Raised(e, number));
        }

        int work() {
            Raised first = queue.poll();
            if (first == null) {
                return -1;
            }
            worked = first.number();
            return first.event();
        }

        int lose() {
            int n = queue.size();
            queue.clear();
            lost += n;
            return n;
        }

        int tell(int e, boolean on) {
            if (!among(e, 32)) {
                return 16;
            }
            told.put(e, on);
            return 0;
        }

        int put(int b) {
            if (text.size() == 256) {
                return -1;
            }
            text.add(Math.floorMod(b, 256));
            return text.size();
        }

        int act(int e) {
            List<Integer> taken = text;
            text = new ArrayList<>();
            if (!among(e, 32)) {
                return 16;
            }
            if (taken.isEmpty()) {
                return 22;
            }
            if (actions.containsKey(e)) {
                return 29;
            }
            actions.put(e, taken);
            armed.put(e, false);
            return 0;
        }

        int drop(int e) {
            if (!actions.containsKey(e)) {
                return among(e, 32) ? 30 : 16;
            }
            if (armed.get(e)) {
                return 15;
            }
            actions.remove(e);
            return 0;
        }

        int arm(int e, boolean on) {
            if (!actions.containsKey(e)) {
                return among(e, 32) ? 30 : 16;
            }
            armed.put(e, on);
            return 0;
        }

        int limit(int id, int what) {
            Rule rule = rules.get(id);
            if (rule == null || !among(what, 6)) {
                return -1;
            }
            int[] all = {countsOfThoseOn.containsKey(id) ? 1 : 0, countsOfThoseOn.getOrDefault(id, 0),
                rule.parameter(), rule.times(), rule.event(), rule.linked() ? 1 : 0};
            return all[what];
        }

        int event(int e, int what) {
            if (!among(e, 32) || !among(what, 3)) {
                return -1;
            }
            int[] all = {told.getOrDefault(e, true) ? 1 : 0, actions.getOrDefault(e, List.of()).size(),
                armed.getOrDefault(e, false) ? 1 : 0};
            return all[what];
        }

        int actionAt(int e, int k) {
            List<Integer> action = actions.getOrDefault(e, List.of());
            return among(k, action.size()) ? action.get(k) : -1;
        }

        int count(int what) {
            int[] all = {rules.size(), broken, queue.size(), lost, worked};
            return among(what, 5) ? all[what] : -1;
        }
    }
}
