import java.util.ArrayList;
import java.util.Arrays;
import java.util.HashMap;
import java.util.List;
import java.util.Map;
import java.util.Random;

/**
 * The document once more, as plainly as it can be said: nothing is kept that can be worked out, each
 * DAY goes second by second, sets are tried one by one. Random crossings tell it and the class alike.
 */
final class Model {
    static final class OneDay {
        final boolean[] green = new boolean[300];
        final int[] leaves = new int[12];
        final int[] waited = new int[12];
        final boolean[] went = new boolean[12];
        final boolean[] harmed = new boolean[12];
        final boolean[] pressed = new boolean[12];
        final boolean[] came = new boolean[12];
    }

    int cycle;
    int least;
    int away;
    int kinds;
    int walkers;
    int statements;
    final int[] calm = new int[6];
    final int[] pace = new int[6];
    final int[] kindOf = new int[12];
    final int[] comesAt = new int[12];
    Telling.Worth car = env -> 0;
    Telling.Worth red = env -> 0;
    Telling.Worth learns = env -> 0;
    String text;

    int day;
    int rule;
    int greenTime;
    int[] trusts = new int[6];
    long seed = 1;
    final List<int[]> seen = new ArrayList<>();
    final List<int[]> acts = new ArrayList<>();

    /** A random crossing; sizes so that its text stays below 1600 bytes. */
    static Model random(Random dice, long seed) {
        Model m = new Model();
        m.seed = seed;
        m.cycle = dice.nextInt(3) == 0 ? 10 + dice.nextInt(111) : 10 + dice.nextInt(30);
        m.greenTime = 1 + dice.nextInt(Math.min(dice.nextBoolean() ? 60 : 12, m.cycle - 1));
        m.rule = dice.nextInt(3);
        m.least = dice.nextInt(3) == 0 ? dice.nextInt(100) : dice.nextInt(20);
        List<List<String>> rest = new ArrayList<>();
        m.tellKindsAndWalkers(dice, rest);
        if (dice.nextInt(6) > 0) {
            Telling.Told told = dice.nextBoolean() ? usualCar(dice) : new Telling(dice, Telling.CAR).test(0, 12);
            m.car = told.worth;
            rest.add(dice.nextInt(rest.size() + 1), statement("car", told.tokens));
        }
        if (dice.nextInt(6) > 0) {
            Telling.Told told = dice.nextBoolean() ? usualRed(dice) : new Telling(dice, Telling.RED).test(0, 12);
            m.red = told.worth;
            rest.add(dice.nextInt(rest.size() + 1), statement("red", told.tokens));
        }
        if (dice.nextInt(6) > 0) {
            Telling.Told told = dice.nextBoolean() ? usualLearns(dice) : new Telling(dice, Telling.LEARNS).sum(0, 8);
            m.learns = told.worth;
            rest.add(dice.nextInt(rest.size() + 1), statement("learns", told.tokens));
        }
        for (int k = dice.nextInt(3); k > 0; k--) {
            m.away = dice.nextInt(4) == 0 ? dice.nextInt(2) * 100 : dice.nextInt(101);
            rest.add(statement("away", Arrays.asList("" + m.away)));
        }
        List<String> tokens = new ArrayList<>(Arrays.asList("cycle", "" + m.cycle, "green", "" + m.greenTime,
            "rule", "" + m.rule, "least", "" + m.least, ";"));
        for (List<String> one : rest) {
            tokens.addAll(one);
        }
        m.statements = 1 + rest.size();
        m.text = Telling.text(tokens, dice);
        return m;
    }

    private void tellKindsAndWalkers(Random dice, List<List<String>> rest) {
        kinds = dice.nextInt(8) == 0 ? 0 : 1 + dice.nextInt(6);
        walkers = kinds == 0 ? 0 : dice.nextInt(13);
        for (int k = 0; k < kinds; k++) {
            calm[k] = dice.nextInt(dice.nextBoolean() ? 100 : 10);
            pace[k] = 1 + dice.nextInt(dice.nextBoolean() ? 20 : 6);
            trusts[k] = dice.nextInt(10);
            rest.add(Arrays.asList("kind", "k" + (char) ('a' + k), "calm", "" + calm[k], "pace", "" + pace[k],
                "trusts", "" + trusts[k], ";"));
        }
        int span = dice.nextBoolean() ? 200 : 30;
        for (int w = 0; w < walkers; w++) {
            kindOf[w] = dice.nextInt(kinds);
            comesAt[w] = dice.nextInt(span);
            rest.add(Arrays.asList("comes", "w" + (char) ('a' + w), "is", "k" + (char) ('a' + kindOf[w]), "at",
                "" + comesAt[w], ";"));
        }
    }

    private static List<String> statement(String word, List<String> tokens) {
        List<String> all = new ArrayList<>();
        all.add(word);
        all.addAll(tokens);
        all.add(";");
        return all;
    }

    private static Telling.Told told(String text, Telling.Worth worth) {
        Telling.Told told = new Telling.Told();
        told.tokens.addAll(Arrays.asList(text.split(" ")));
        told.worth = worth;
        return told;
    }

    private static Telling.Told usualCar(Random dice) {
        int from = dice.nextInt(12);
        int to = from + 1 + dice.nextInt(9);
        return told("phase > " + from + " and phase < " + to, env -> env[2] > from && env[2] < to ? 1 : 0);
    }

    private static Telling.Told usualRed(Random dice) {
        int reds = dice.nextInt(4);
        int more = dice.nextInt(4);
        return told("waited > calm and gap + " + more + " > pace - 1 or reds > " + reds,
            env -> env[3] > env[4] && env[7] + more > env[5] - 1 || env[8] > reds ? 1 : 0);
    }

    private static Telling.Told usualLearns(Random dice) {
        int by = dice.nextInt(20);
        int up = dice.nextInt(4);
        return told(up + " - waited / " + by, env -> up - (by == 0 ? 0 : env[3] / by));
    }

    boolean carIn(int second, int onDay) {
        int[] env = new int[13];
        env[0] = second;
        env[1] = onDay;
        env[2] = second % cycle;
        return car.of(env) != 0;
    }

    private boolean noCarFor(int from, int seconds, boolean[] cars) {
        for (int k = 0; k < seconds; k++) {
            if (cars[from + k]) {
                return false;
            }
        }
        return true;
    }

    private int[] envOf(int w, int onDay, int second, int waited, int trusting) {
        int[] env = new int[13];
        env[0] = second;
        env[1] = onDay;
        env[3] = waited;
        env[4] = calm[kindOf[w]];
        env[5] = pace[kindOf[w]];
        env[6] = trusting;
        env[9] = w;
        env[12] = kindOf[w];
        return env;
    }

    OneDay live(int onDay, int byRule, int green, int[] belief, int absent, int held) {
        OneDay d = new OneDay();
        boolean[] cars = new boolean[320];
        for (int s = 0; s < 320; s++) {
            cars[s] = carIn(s, onDay);
        }
        Arrays.fill(d.leaves, -1);
        boolean[] there = new boolean[12];
        boolean open = false;
        boolean greenCycle = false;
        int start = -1000;
        int reds = 0;
        for (int s = 0; s < 300; s++) {
            boolean before = s > 0 && d.green[s - 1];
            for (int w = 0; w < walkers; w++) {
                if (comesAt[w] == s && (absent >> w & 1) == 0) {
                    there[w] = true;
                    d.came[w] = true;
                    if (belief[kindOf[w]] > 0 && !before) {
                        d.pressed[w] = true;
                        open = true;
                    }
                }
            }
            int lasts = 0;
            if (byRule == 0) {
                lasts = s % cycle < green ? green - s % cycle : 0;
            } else if (byRule == 1) {
                if (s < start + green) {
                    lasts = start + green - s;
                } else if (open) {
                    int between = 0;
                    for (int k = s - 1; k >= 0 && !d.green[k]; k--) {
                        between++;
                    }
                    if (between >= least) {
                        start = s;
                        lasts = green;
                        open = false;
                    }
                }
            } else {
                if (s % cycle == 0) {
                    greenCycle = open;
                    open = false;
                }
                lasts = greenCycle && s % cycle < green ? green - s % cycle : 0;
            }
            d.green[s] = lasts > 0;
            for (int w = 0; w < walkers; w++) {
                if (!there[w]) {
                    continue;
                }
                int steps = pace[kindOf[w]];
                if (lasts >= steps) {
                    there[w] = false;
                    d.leaves[w] = s;
                    continue;
                }
                int[] env = envOf(w, onDay, s, d.waited[w], belief[kindOf[w]]);
                env[7] = 0;
                while (env[7] < 20 && !cars[s + env[7]]) {
                    env[7]++;
                }
                env[8] = reds;
                if ((held >> w & 1) == 0 && red.of(env) != 0) {
                    there[w] = false;
                    d.leaves[w] = s;
                    d.went[w] = true;
                    d.harmed[w] = !noCarFor(s, steps, cars);
                    reds++;
                } else {
                    d.waited[w]++;
                }
            }
        }
        return d;
    }

    OneDay today() {
        return live(day, rule, greenTime, trusts, 0, 0);
    }

    int[] learnt(OneDay d, int onDay, int[] belief) {
        int[] after = belief.clone();
        for (int w = 0; w < walkers; w++) {
            if (d.came[w]) {
                int k = kindOf[w];
                int[] env = envOf(w, onDay, comesAt[w], d.waited[w], after[k]);
                after[k] = (int) Math.max(0, Math.min(9, after[k] + learns.of(env)));
            }
        }
        return after;
    }

    static int count(boolean[] flags) {
        int n = 0;
        for (boolean flag : flags) {
            n += flag ? 1 : 0;
        }
        return n;
    }

    int told(OneDay d, int what) {
        switch (what) {
            case 0: return Arrays.stream(d.waited).sum();
            case 1: return count(d.went);
            case 2: return count(d.harmed);
            case 3: {
                int n = 0;
                for (int w = 0; w < walkers; w++) {
                    n += d.came[w] && d.leaves[w] < 0 ? 1 : 0;
                }
                return n;
            }
            case 4: {
                int n = 0;
                for (int s = 0; s < 300; s++) {
                    if (d.green[s] && (s == 0 || !d.green[s - 1])) {
                        boolean none = true;
                        for (int e = s; e < 300 && d.green[e]; e++) {
                            for (int w = 0; w < walkers; w++) {
                                none &= d.leaves[w] != e || d.went[w];
                            }
                        }
                        n += none ? 1 : 0;
                    }
                }
                return n;
            }
            case 5: return count(d.pressed);
            default: return -1;
        }
    }

    int best(int harmed, int what) {
        int[] found = null;
        for (int r = 0; r < 3; r++) {
            for (int g = 1; g <= 40 && g < cycle; g++) {
                OneDay d = live(day, r, g, trusts, 0, 0);
                if (count(d.harmed) <= harmed) {
                    int[] one = {r, g, told(d, 0)};
                    if (found == null || one[2] < found[2] || one[2] == found[2]
                        && (one[1] < found[1] || one[1] == found[1] && one[0] < found[0])) {
                        found = one;
                    }
                }
            }
        }
        return found == null || harmed < 0 || harmed > 12 || what < 0 || what > 2 ? -1 : found[what];
    }

    int least() {
        for (int g = 1; g <= 60 && g < cycle; g++) {
            OneDay d = live(day, rule, g, trusts, 0, 0);
            if (told(d, 1) == 0 && told(d, 3) == 0) {
                return g;
            }
        }
        return -1;
    }

    int hold() {
        for (int size = 0; size <= 3; size++) {
            for (int set = 0; set < 1 << walkers; set++) {
                if (Integer.bitCount(set) == size
                    && told(live(day, rule, greenTime, trusts, 0, set), 1) == 0) {
                    return set;
                }
            }
        }
        return -1;
    }

    int later(int n, int what) {
        if (n < 0 || n > 29 || day + n > 999) {
            return -1;
        }
        int[] belief = trusts;
        for (int k = 0; k < n; k++) {
            belief = learnt(live(day + k, rule, greenTime, belief, 0, 0), day + k, belief);
        }
        return told(live(day + n, rule, greenTime, belief, 0, 0), what);
    }

    int doubts(int kind) {
        if (kind < 0 || kind >= kinds) {
            return -1;
        }
        int[] belief = trusts;
        for (int n = 0; n <= 30; n++) {
            if (belief[kind] == 0) {
                return n;
            }
            if (day + n > 999) {
                return -1;
            }
            belief = learnt(live(day + n, rule, greenTime, belief, 0, 0), day + n, belief);
        }
        return -1;
    }

    List<int[]> fitting() {
        List<int[]> fitting = new ArrayList<>();
        for (int r = 0; r < 3; r++) {
            for (int g = 1; g <= 20 && g < cycle; g++) {
                OneDay d = live(day, r, g, trusts, 0, 0);
                boolean so = true;
                for (int[] row : seen) {
                    so &= d.leaves[row[0]] == row[1];
                }
                if (so) {
                    int[] one = Arrays.copyOf(d.leaves, 14);
                    one[12] = r;
                    one[13] = g;
                    fitting.add(one);
                }
            }
        }
        return fitting;
    }

    int fits(int what) {
        int rules = 0;
        int green = -1;
        List<int[]> fitting = fitting();
        for (int[] one : fitting) {
            rules |= 1 << one[12];
            green = green < 0 ? one[13] : Math.min(green, one[13]);
        }
        return what == 0 ? fitting.size() : what == 1 ? rules : what == 2 ? green : -1;
    }

    int watched(int what) {
        List<int[]> fitting = fitting();
        int walker = -1;
        int fewest = -1;
        for (int w = 0; w < walkers && !fitting.isEmpty(); w++) {
            Map<Integer, Integer> groups = new HashMap<>();
            int most = 0;
            for (int[] one : fitting) {
                most = Math.max(most, groups.merge(one[w], 1, Integer::sum));
            }
            if (walker < 0 || most < fewest) {
                walker = w;
                fewest = most;
            }
        }
        return what == 0 ? walker : what == 1 ? fewest : -1;
    }

    private void keepAct() {
        int[] act = Arrays.copyOf(trusts, 9);
        act[6] = day;
        act[7] = rule;
        act[8] = greenTime;
        acts.add(act);
        if (acts.size() > 20) {
            acts.remove(0);
        }
    }

    boolean rule(int r) {
        if (r < 0 || r > 2 || r == rule) {
            return false;
        }
        keepAct();
        rule = r;
        return true;
    }

    boolean green(int g) {
        if (g < 1 || g > 60 || g >= cycle || g == greenTime) {
            return false;
        }
        keepAct();
        greenTime = g;
        return true;
    }

    boolean trust(int k, int v) {
        if (k < 0 || k >= kinds || v < 0 || v > 9 || trusts[k] == v) {
            return false;
        }
        keepAct();
        trusts[k] = v;
        return true;
    }

    /** What is waited, and how often one did not come. */
    int[] days(int n, boolean drawn) {
        if (n < 1 || n > 30 || day + n > 999) {
            return new int[] {-1, -1};
        }
        keepAct();
        int[] sums = new int[2];
        trusts = trusts.clone();
        for (int k = 0; k < n; k++) {
            int absent = 0;
            for (int w = 0; w < walkers && drawn; w++) {
                seed = (1103515245L * seed + 12345) % (1L << 31);
                if (seed / 64 % 100 < away) {
                    absent |= 1 << w;
                    sums[1]++;
                }
            }
            OneDay d = live(day, rule, greenTime, trusts, absent, 0);
            sums[0] += told(d, 0);
            trusts = learnt(d, day, trusts);
            day++;
        }
        return sums;
    }

    boolean undo() {
        if (acts.isEmpty()) {
            return false;
        }
        int[] act = acts.remove(acts.size() - 1);
        trusts = Arrays.copyOf(act, 6);
        day = act[6];
        rule = act[7];
        greenTime = act[8];
        return true;
    }

    long ask(int sort, Telling.Worth worth) {
        OneDay d = today();
        long first = -1;
        long last = -1;
        long total = 0;
        long most = Long.MIN_VALUE;
        long fewest = Long.MAX_VALUE;
        for (int w = 0; w < walkers; w++) {
            int[] env = envOf(w, day, comesAt[w], d.waited[w], trusts[kindOf[w]]);
            env[10] = d.went[w] ? 1 : 0;
            env[11] = d.harmed[w] ? 1 : 0;
            long value = worth.of(env);
            if (value != 0) {
                first = first < 0 ? w : first;
                last = w;
            }
            total += value;
            most = Math.max(most, value);
            fewest = Math.min(fewest, value);
        }
        switch (sort) {
            case 0: return first;
            case 1: return last;
            case 2:
            case 3: return total;
            case 4: return walkers == 0 ? 0 : most;
            default: return walkers == 0 ? 0 : fewest;
        }
    }
}
