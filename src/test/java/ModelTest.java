import java.util.ArrayList;
import java.util.List;
import java.util.Random;

// Runs of calls drawn from a fixed seed, each answer held against a slow model. It tries all
// plans where there are up to MOST_TRIED; where there are more, it goes through the part
// forward (the program goes backward), so ties there rest on a like method, not on trying all.
// Program and model are of one hand: a misread word of the document may stand in both.
public final class ModelTest {
    private static final int RUNS = 400, CALLS = 512, MOST_TRIED = 20000;
    private static int wrong = 0;

    public static void main(String[] args) {
        for (int run = 0; run < RUNS && wrong == 0; run++) {
            oneRun(new Random(7919L * run + 11), run);
        }
        System.out.println(wrong == 0 ? "all runs are as the model's" : "a run is not as the model's");
        if (wrong != 0) {
            System.exit(1);
        }
    }

    private static void oneRun(Random random, int run) {
        BrassWays x = new BrassWays();
        Model model = new Model();
        List<String> told = new ArrayList<>();
        for (int call = 0; call < CALLS; call++) {
            int kind = random.nextInt(26);
            int a = argument(random, kind);
            int b = second(random, kind, a);
            long got = ask(x, kind, a, b);
            long want = model.answer(kind, a, b);
            told.add("call " + kind + " (" + a + ", " + b + ") answered " + got);
            if (got != want) {
                wrong++;
                System.out.println("run " + run + ", due is " + want + " at the last of:");
                told.forEach(System.out::println);
                return;
            }
        }
    }

    private static int near(Random random, int low, int high) {
        int die = random.nextInt(60);
        if (die == 0) {
            return random.nextInt();
        }
        if (die == 1) {
            return low - 1;
        }
        if (die == 2) {
            return high + 1;
        }
        return low + random.nextInt(high - low + 1);
    }

    private static int argument(Random random, int kind) {
        switch (kind) {
            case 0: return random.nextInt(4) == 0 ? near(random, 0, 1) : 0;
            case 1: case 18: return near(random, 0, 2);
            case 2: return near(random, 0, 4);
            case 3: return near(random, 0, 7);
            case 4: case 12: return near(random, 0, 63);
            case 5: case 6: case 9: case 16: case 22: case 23: return near(random, 0, 36);
            case 7: return random.nextBoolean() ? near(random, -1, 8) : near(random, -1, 64);
            case 8: case 19: case 20: return near(random, 0, 1);
            case 10: case 24: return near(random, 0, 11);
            case 13: return near(random, -1, 12);
            case 14: return random.nextBoolean() ? near(random, 0, 1) : near(random, 10, 21);
            case 17: return near(random, 1, 12);
            case 21: return near(random, 0, 42);
            default: return 0;
        }
    }

    private static int second(Random random, int kind, int a) {
        int[] top = {50, 99, 9, 9, 9};
        switch (kind) {
            case 1: return random.nextInt(3) == 0 ? near(random, 0, 400) : 100 * random.nextInt(5);
            case 2: return near(random, 0, a >= 0 && a < 5 ? top[a] : 9);
            case 4: case 10: case 16: case 24: return near(random, 0, 36);
            case 5: return near(random, -1, 8);
            case 12: return near(random, 0, 63);
            case 17: return random.nextInt(3) == 0 ? near(random, 0, 99) : near(random, 0, 12);
            case 18: return near(random, 0, 1);
            default: return 0;
        }
    }

    private static long ask(BrassWays x, int kind, int a, int b) {
        switch (kind) {
            case 0: return x.horn(a);
            case 1: return x.valve(a, b);
            case 2: return x.rule(a, b);
            case 3: return x.lowers(a);
            case 4: return x.off(a, b);
            case 5: return x.ways(a, b);
            case 6: return x.truest(a);
            case 7: return x.range(a);
            case 8: return a == 0 ? x.dumb() : x.count(1);
            case 9: case 22: case 23: return x.note(a);
            case 10: case 24: return x.set(a, b);
            case 11: return x.count(1) >= 8 ? x.clear() : x.dumb();
            case 12: return x.effort(a, b);
            case 13: return x.least(a);
            case 14: return x.plans(a);
            case 15: return x.least(-1);
            case 16: return x.trill(a, b);
            case 17: return x.awkward(a, b);
            case 18: return x.tune(a, b);
            case 19: return x.image(a);
            case 20: return x.restore(a);
            case 21: return x.count(a);
            default: return x.plans(1);
        }
    }

    private static final class Kept {
        int horn;
        int[] lengths = {200, 100, 300};
        int[] rules = {10, 35, 2, 1, 1};
        List<Integer> part = new ArrayList<>();

        Kept copy() {
            Kept other = new Kept();
            other.horn = horn;
            other.lengths = lengths.clone();
            other.rules = rules.clone();
            other.part = new ArrayList<>(part);
            return other;
        }
    }

    private static final class Model {
        private static final int[] HIGH = {0, 1200, 1902, 2400, 2786, 3102, 3369, 3600};
        private Kept is = new Kept();
        private final Kept[] images = new Kept[2];

        private static boolean within(int v, int low, int high) {
            return low <= v && v <= high;
        }

        long answer(int kind, int a, int b) {
            switch (kind) {
                case 0: return horn(a);
                case 1: return valve(a, b);
                case 2: return rule(a, b);
                case 3: return within(a, 0, settings() - 1) ? 1000 + drop(a, is.lengths) : -2;
                case 4: return way(a) && within(b, 0, 36) ? 10000 + off(a, b) : -2;
                case 5: return ways(a, b);
                case 6: return within(a, 0, 36) ? truest(a) : -2;
                case 7: return range(a);
                case 8: return a == 0 ? dumb() : is.part.size();
                case 9: case 22: case 23: return note(a);
                case 10: case 24: return set(a, b);
                case 11: return is.part.size() >= 8 ? clear() : dumb();
                case 12: return way(a) && way(b) ? effort(a, b) : -2;
                case 13: return a < -1 ? -2 : least(a);
                case 14: return within(a, 0, 1) || within(a, 10, 21) ? plans(a) : -2;
                case 15: return least(-1);
                case 16: return within(a, 0, 36) && within(b, 0, 36) ? trill(a, b) : -2;
                case 17: return within(a, 1, 12) && within(b, 0, 99) ? awkward(a, b) : -2;
                case 18: return tune(a, b);
                case 19: return image(a);
                case 20: return restore(a);
                case 21: return count(a);
                default: return plans(1);
            }
        }

        private int settings() {
            return is.horn == 1 ? 7 : 8;
        }

        private boolean way(int w) {
            return within(w, 0, 63) && w % 8 < settings();
        }

        private int drop(int setting, int[] lengths) {
            if (is.horn == 1) {
                return 100 * setting;
            }
            List<Integer> pressed = new ArrayList<>();
            for (int v = 0; v < 3; v++) {
                if ((setting & 1 << v) != 0) {
                    pressed.add(v);
                }
            }
            int all = 0;
            for (int i = 0; i < pressed.size(); i++) {
                all += lengths[pressed.get(i)];
                for (int j = 0; j < i; j++) {
                    all -= is.rules[0];
                }
            }
            return all;
        }

        private int off(int w, int n) {
            return HIGH[w / 8] - drop(w % 8, is.lengths) - 100 * n;
        }

        private List<Integer> waysOf(int n) {
            List<Integer> ways = new ArrayList<>();
            for (int w = 0; w < 64; w++) {
                if (way(w) && within(off(w, n), -is.rules[1], is.rules[1])) {
                    ways.add(w);
                }
            }
            return ways;
        }

        private int effort(int one, int other) {
            int moved = Math.abs(one % 8 - other % 8);
            if (is.horn == 0) {
                moved = 0;
                for (int v = 0; v < 3; v++) {
                    moved += (one & 1 << v) != (other & 1 << v) ? 1 : 0;
                }
            }
            return is.rules[2] * moved + is.rules[3] * Math.abs(one / 8 - other / 8);
        }

        private int fault(int w, int n) {
            return is.rules[4] * Math.abs(off(w, n)) / 10;
        }

        private int horn(int v) {
            if (!within(v, 0, 1)) {
                return -2;
            }
            int was = is.horn;
            is.horn = v;
            return was;
        }

        private int valve(int valve, int v) {
            if (!within(valve, 0, 2)) {
                return -1;
            }
            if (!within(v, 0, 400)) {
                return -2;
            }
            int was = is.lengths[valve];
            is.lengths[valve] = v;
            return was;
        }

        private int rule(int what, int v) {
            int[] top = {50, 99, 9, 9, 9};
            if (!within(what, 0, 4) || !within(v, 0, top[what])) {
                return -2;
            }
            int was = is.rules[what];
            is.rules[what] = v;
            return was;
        }

        private int ways(int n, int i) {
            if (!within(n, 0, 36) || i < -1) {
                return -2;
            }
            List<Integer> ways = waysOf(n);
            return i == -1 ? ways.size() : i < ways.size() ? ways.get(i) : -6;
        }

        private int truest(int n) {
            return waysOf(n).stream()
                    .min((p, q) -> Integer.compare(64 * Math.abs(off(p, n)) + p, 64 * Math.abs(off(q, n)) + q))
                    .orElse(-6);
        }

        private int range(int what) {
            if (!within(what, -1, 64)) {
                return -2;
            }
            int many = 0;
            for (int n = 0; n <= 36; n++) {
                int size = waysOf(n).size();
                many += what == -1 && size > 0 || what == size ? 1 : 0;
            }
            return many;
        }

        private int note(int n) {
            if (!within(n, 0, 36)) {
                return -2;
            }
            if (is.part.size() == 12) {
                return -4;
            }
            is.part.add(n);
            return is.part.size() - 1;
        }

        private int set(int place, int n) {
            if (!within(place, 0, is.part.size() - 1)) {
                return -1;
            }
            return within(n, 0, 36) ? is.part.set(place, n) : -2;
        }

        private int clear() {
            int had = is.part.size();
            is.part.clear();
            return had;
        }

        private int dumb() {
            for (int place = 0; place < is.part.size(); place++) {
                if (waysOf(is.part.get(place)).isEmpty()) {
                    return place;
                }
            }
            return -6;
        }

        // ways[p] are the ways that are free at place p
        private List<List<Integer>> freeWays() {
            List<List<Integer>> ways = new ArrayList<>();
            for (int n : is.part) {
                ways.add(waysOf(n));
            }
            return ways;
        }

        private long all(List<List<Integer>> ways) {
            long all = 1;
            for (List<Integer> some : ways) {
                all *= some.size();
            }
            return all;
        }

        // From the first place forward: least cost and how many plans have it.
        private long[] forward(List<List<Integer>> ways) {
            long[] cost = new long[64];
            long[] many = new long[64];
            for (int place = 0; place < ways.size(); place++) {
                long[] newCost = new long[64];
                long[] newMany = new long[64];
                for (int w : ways.get(place)) {
                    long least = place == 0 ? 0 : Long.MAX_VALUE;
                    long sum = place == 0 ? 1 : 0;
                    if (place > 0) {
                        for (int u : ways.get(place - 1)) {
                            least = Math.min(least, cost[u] + effort(u, w));
                        }
                        for (int u : ways.get(place - 1)) {
                            sum += cost[u] + effort(u, w) == least ? many[u] : 0;
                        }
                    }
                    newCost[w] = least + fault(w, is.part.get(place));
                    newMany[w] = sum;
                }
                cost = newCost;
                many = newMany;
            }
            long least = Long.MAX_VALUE;
            long sum = 0;
            List<Integer> last = ways.get(ways.size() - 1);
            for (int w : last) {
                least = Math.min(least, cost[w]);
            }
            for (int w : last) {
                sum += cost[w] == least ? many[w] : 0;
            }
            return new long[] {least, sum};
        }

        // The plans of the least cost, in order, by trying all.
        private List<int[]> cheapest(List<List<Integer>> ways) {
            List<int[]> best = new ArrayList<>();
            int size = ways.size();
            int[] turn = new int[size];
            long leastCost = Long.MAX_VALUE;
            while (true) {
                int[] plan = new int[size];
                long cost = 0;
                for (int p = 0; p < size; p++) {
                    plan[p] = ways.get(p).get(turn[p]);
                    cost += fault(plan[p], is.part.get(p));
                    cost += p > 0 ? effort(plan[p - 1], plan[p]) : 0;
                }
                if (cost < leastCost) {
                    best.clear();
                    leastCost = cost;
                }
                if (cost == leastCost) {
                    best.add(plan);
                }
                int p = size - 1;
                while (p >= 0 && ++turn[p] == ways.get(p).size()) {
                    turn[p--] = 0;
                }
                if (p < 0) {
                    return best;
                }
            }
        }

        private List<List<Integer>> fixed(List<List<Integer>> ways, int place, int w) {
            List<List<Integer>> other = new ArrayList<>(ways);
            other.set(place, List.of(w));
            return other;
        }

        private long least(int i) {
            List<List<Integer>> ways = freeWays();
            if (all(ways) == 0 || i >= ways.size()) {
                return -6;
            }
            if (ways.isEmpty()) {
                return 0;
            }
            long cost = forward(ways)[0];
            if (i == -1) {
                return cost;
            }
            if (all(ways) <= MOST_TRIED) {
                return cheapest(ways).get(0)[i];
            }
            for (int place = 0; place <= i; place++) {
                for (int w : ways.get(place)) {
                    if (forward(fixed(ways, place, w))[0] == cost) {
                        ways = fixed(ways, place, w);
                        break;
                    }
                }
            }
            return ways.get(i).get(0);
        }

        private long plans(int what) {
            List<List<Integer>> ways = freeWays();
            long all = all(ways);
            if (what == 0) {
                return all;
            }
            if (what == 1) {
                return all == 0 || ways.isEmpty() ? all
                        : all <= MOST_TRIED ? cheapest(ways).size() : forward(ways)[1];
            }
            int place = what - 10;
            if (all == 0 || place >= ways.size()) {
                return -6;
            }
            if (all <= MOST_TRIED) {
                return cheapest(ways).stream().mapToInt(plan -> plan[place]).distinct().count();
            }
            long cost = forward(ways)[0];
            return ways.get(place).stream().filter(w -> forward(fixed(ways, place, w))[0] == cost).count();
        }

        private int trill(int one, int other) {
            int least = Integer.MAX_VALUE;
            for (int w : waysOf(one)) {
                for (int u : waysOf(other)) {
                    least = Math.min(least, effort(w, u));
                }
            }
            return least == Integer.MAX_VALUE ? -6 : least;
        }

        private int awkward(int d, int limit) {
            int many = 0;
            for (int n = 0; n <= 36 - d; n++) {
                int trill = trill(n, n + d);
                many += trill != -6 && trill > limit ? 1 : 0;
            }
            return many;
        }

        private int tune(int valve, int what) {
            if (!within(valve, 0, 2)) {
                return -1;
            }
            if (!within(what, 0, 1)) {
                return -2;
            }
            if (is.horn == 1) {
                return -3;
            }
            int best = 400;
            int least = Integer.MAX_VALUE;
            int kept = is.lengths[valve];
            for (int length = 400; length >= 0; length -= 5) {
                is.lengths[valve] = length;
                int sum = 0;
                for (int n : is.part) {
                    int size = Integer.MAX_VALUE;
                    for (int w = 0; w < 64; w++) {
                        size = Math.min(size, Math.abs(off(w, n)));
                    }
                    sum += size;
                }
                if (sum <= least) {
                    least = sum;
                    best = length;
                }
            }
            is.lengths[valve] = kept;
            return what == 0 ? best : least;
        }

        private int image(int k) {
            if (!within(k, 0, 1)) {
                return -2;
            }
            images[k] = is.copy();
            return 1;
        }

        private int restore(int k) {
            if (!within(k, 0, 1)) {
                return -2;
            }
            if (images[k] == null) {
                return -3;
            }
            is = images[k].copy();
            return 1;
        }

        private int count(int what) {
            if (within(what, 0, 2)) {
                int set = (images[0] != null ? 1 : 0) + (images[1] != null ? 2 : 0);
                return what == 0 ? is.horn : what == 1 ? is.part.size() : set;
            }
            if (within(what, 10, 14)) {
                return is.rules[what - 10];
            }
            if (within(what, 20, 22)) {
                return is.lengths[what - 20];
            }
            if (within(what, 30, 41)) {
                return what - 30 < is.part.size() ? is.part.get(what - 30) : -6;
            }
            return -2;
        }
    }
}
