import java.lang.annotation.Retention;
import java.lang.annotation.RetentionPolicy;
import java.lang.reflect.InvocationTargetException;
import java.lang.reflect.Method;
import java.util.ArrayList;
import java.util.Comparator;
import java.util.LinkedHashMap;
import java.util.List;
import java.util.Map;
import java.util.function.ToLongFunction;

// A test of its own for each sentence of the document that names a boundary case. Each method
// quotes its sentence and is given a new object; all answers are worked out from the document.
public final class BoundaryTest {
    /** Where the sentence stands, a bar, and its words; "..." where words are left out. */
    @Retention(RetentionPolicy.RUNTIME)
    private @interface Sentence {
        String value();
    }

    private static final Class<?>[] GROUPS = {Terms.class, Horn.class, Settings.class, Tells.class,
            Part.class, Plans.class, Trills.class, Tuning.class, Images.class};
    private static final int UNKNOWN = -1, OUTSIDE = -2, STATE = -3, FULL = -4, NONE = -6;
    private static final int LOW = Integer.MIN_VALUE, TOP = Integer.MAX_VALUE;
    private static final int LOSS = 0, LIMIT = 1, MOVE = 2, LIP = 3, CARE = 4;

    private static final List<String> told = new ArrayList<>();

    public static void main(String[] args) {
        List<String> broken = broken();
        told.forEach(System.out::println);
        System.out.println(broken.isEmpty() ? tests().size() + " sentences hold"
                : broken.size() + " sentences are broken");
        if (!broken.isEmpty()) {
            System.exit(1);
        }
    }

    /** The names of the tests that fail; what was wrong is kept in told. */
    static List<String> broken() {
        List<String> broken = new ArrayList<>();
        for (Method test : tests()) {
            int before = told.size();
            try {
                test.invoke(null, new BrassWays());
            } catch (InvocationTargetException e) {
                told.add("threw " + e.getCause());
            } catch (IllegalAccessException e) {
                told.add("could not be run: " + e);
            }
            if (told.size() > before) {
                broken.add(test.getName());
                told.add(before, test.getAnnotation(Sentence.class).value());
            }
        }
        return broken;
    }

    /** The sentence of each test, by the test's name. */
    static Map<String, String> sentences() {
        Map<String, String> all = new LinkedHashMap<>();
        tests().forEach(test -> all.put(test.getName(), test.getAnnotation(Sentence.class).value()));
        return all;
    }

    private static List<Method> tests() {
        List<Method> all = new ArrayList<>();
        for (Class<?> group : GROUPS) {
            List<Method> some = new ArrayList<>();
            for (Method m : group.getDeclaredMethods()) {
                if (m.isAnnotationPresent(Sentence.class)) {
                    m.setAccessible(true);
                    some.add(m);
                }
            }
            some.sort(Comparator.comparing(Method::getName));
            all.addAll(some);
        }
        return all;
    }

    // ---- what the tests are written with

    private static void due(String call, long got, long want) {
        if (got != want) {
            told.add("  " + call + " answered " + got + ", due is " + want);
        }
    }

    private static void same(String when, String got, String want) {
        if (!got.equals(want)) {
            told.add("  " + when + ": now " + got + ", due is " + want);
        }
    }

    /** Numbers just beyond a span, and such as would be within it if they were wrapped or masked. */
    private static int[] beyond(int low, int high) {
        return new int[] {low - 1, high + 1, low - 8, high + 64, low - 64, high + 256, low - 256,
            high + 65536, LOW, LOW + Math.max(low, 0) + 1, TOP};
    }

    private static void part(BrassWays x, int... notes) {
        for (int note : notes) {
            x.note(note);
        }
    }

    private static void full(BrassWays x, int note) {
        for (int place = 0; place < 12; place++) {
            x.note(note);
        }
    }

    private static void lengths(BrassWays x, int first, int second, int third, int loss) {
        x.valve(0, first);
        x.valve(1, second);
        x.valve(2, third);
        x.rule(LOSS, loss);
    }

    private static void rules(BrassWays x, int move, int lip, int care) {
        x.rule(MOVE, move);
        x.rule(LIP, lip);
        x.rule(CARE, care);
    }

    private static boolean sounds(BrassWays x, int way, int note) {
        int many = x.ways(note, -1);
        for (int i = 0; i < many; i++) {
            if (x.ways(note, i) == way) {
                return true;
            }
        }
        return false;
    }

    private static void dueSounds(String when, BrassWays x, int way, int note, boolean want) {
        due(when + ", " + way + " sounds " + note, sounds(x, way, note) ? 1 : 0, want ? 1 : 0);
    }

    /** All that count tells but which images are kept. */
    private static String state(BrassWays x) {
        StringBuilder all = new StringBuilder();
        for (int what = 0; what <= 41; what++) {
            if (what != 2) {
                all.append(x.count(what)).append(' ');
            }
        }
        return all.toString();
    }

    /** All that count tells, now and of what is kept in the images; leaves image 1 restored. */
    private static String whole(BrassWays x) {
        String all = x.count(2) + " " + state(x);
        for (int k = 0; k < 2; k++) {
            all += "| " + x.restore(k) + " " + state(x);
        }
        return all;
    }

    private static final class Call {
        final String words;
        final ToLongFunction<BrassWays> asked;
        final long want;

        Call(String words, ToLongFunction<BrassWays> asked, long want) {
            this.words = words;
            this.asked = asked;
            this.want = want;
        }
    }

    // ---- what is said of all calls

    private static final class Terms {
        @Sentence("Not promised | nothing about an object after its 512th call")
        static void lastCallStillAnswers(BrassWays x) {
            full(x, 12);
            for (int call = 12; call < 509; call++) {
                x.set(call % 12, call % 37);
            }
            // Places 0 to 4 were set last in calls 504 to 508.
            due("call 510, count(34)", x.count(34), 508 % 37);
            due("call 511, note(0)", x.note(0), FULL);
            due("call 512, set(4, 0)", x.set(4, 0), 508 % 37);
        }

        @Sentence("Constants | UNKNOWN = -1, OUTSIDE = -2, STATE = -3, FULL = -4, NO = -5, NONE = -6")
        static void constants(BrassWays x) {
            due("UNKNOWN", BrassWays.UNKNOWN, -1);
            due("OUTSIDE", BrassWays.OUTSIDE, -2);
            due("STATE", BrassWays.STATE, -3);
            due("FULL", BrassWays.FULL, -4);
            due("NO", BrassWays.NO, -5);
            due("NONE", BrassWays.NONE, -6);
        }

        @Sentence("Terms | Calls that are refused answer the first that fits, in the order in which"
                + " they are told with the call")
        static void firstThatFits(BrassWays x) {
            due("valve(3, 401)", x.valve(3, 401), UNKNOWN);
            due("valve(-1, -1)", x.valve(-1, -1), UNKNOWN);
            due("set(0, 37) without notes", x.set(0, 37), UNKNOWN);
            due("tune(3, 2)", x.tune(3, 2), UNKNOWN);
            due("restore(2)", x.restore(2), OUTSIDE);
            full(x, 12);
            due("set(12, -1) when full", x.set(12, -1), UNKNOWN);
            due("note(37) when full", x.note(37), OUTSIDE);
            due("note(-1) when full", x.note(-1), OUTSIDE);
            x.horn(1);
            due("slide tune(3, 2)", x.tune(3, 2), UNKNOWN);
            due("slide tune(3, 0)", x.tune(3, 0), UNKNOWN);
            due("slide tune(0, 2)", x.tune(0, 2), OUTSIDE);
            due("slide tune(0, 0)", x.tune(0, 0), STATE);
        }

        @Sentence("Terms | NONE -6 is answered only where no refusal fits.")
        static void noneOnlyWhereNoRefusalFits(BrassWays x) {
            // 1 has no way, so there is none, whatever else is asked.
            due("ways(1, -2)", x.ways(1, -2), OUTSIDE);
            due("ways(37, 9)", x.ways(37, 9), OUTSIDE);
            due("trill(1, 37)", x.trill(1, 37), OUTSIDE);
            due("trill(-1, 1)", x.trill(-1, 1), OUTSIDE);
            due("least(-2) without notes", x.least(-2), OUTSIDE);
            due("plans(22) without notes", x.plans(22), OUTSIDE);
            due("plans(9) without notes", x.plans(9), OUTSIDE);
            due("count(42) without notes", x.count(42), OUTSIDE);
            due("count(29) without notes", x.count(29), OUTSIDE);
            x.note(1);
            due("least(-2) without a plan", x.least(-2), OUTSIDE);
            due("plans(22) without a plan", x.plans(22), OUTSIDE);
            due("plans(2) without a plan", x.plans(2), OUTSIDE);
        }

        private static BrassWays prepared(int horn, boolean isFull, boolean kept) {
            BrassWays x = new BrassWays();
            part(x, 3, 9, 14);
            if (kept) {
                x.image(0);
            }
            lengths(x, 7, 108, 209, 11);
            x.rule(LIMIT, 34);
            rules(x, 3, 4, 5);
            x.horn(horn);
            if (isFull) {
                full(x, 20);
            }
            if (kept) {
                x.image(1);
            }
            x.valve(1, 115);
            return x;
        }

        private static List<Call> refusedAlways() {
            List<Call> all = new ArrayList<>();
            for (int bad : beyond(0, 1)) {
                all.add(new Call("horn " + bad, x -> x.horn(bad), OUTSIDE));
                all.add(new Call("image " + bad, x -> x.image(bad), OUTSIDE));
                all.add(new Call("restore " + bad, x -> x.restore(bad), OUTSIDE));
            }
            for (int bad : beyond(0, 2)) {
                all.add(new Call("valve " + bad, x -> x.valve(bad, 50), UNKNOWN));
                all.add(new Call("tune " + bad, x -> x.tune(bad, 0), UNKNOWN));
            }
            for (int valve = 0; valve < 3; valve++) {
                int v = valve;
                all.add(new Call("valve " + v + ", -1", x -> x.valve(v, -1), OUTSIDE));
                all.add(new Call("valve " + v + ", 401", x -> x.valve(v, 401), OUTSIDE));
            }
            int[] top = {50, 99, 9, 9, 9};
            for (int what = 0; what < 5; what++) {
                int w = what;
                all.add(new Call("rule " + w + ", -1", x -> x.rule(w, -1), OUTSIDE));
                all.add(new Call("rule " + w + ", high", x -> x.rule(w, top[w] + 1), OUTSIDE));
            }
            for (int bad : beyond(0, 4)) {
                all.add(new Call("rule " + bad, x -> x.rule(bad, 0), OUTSIDE));
            }
            for (int bad : beyond(0, 36)) {
                all.add(new Call("note " + bad, x -> x.note(bad), OUTSIDE));
                all.add(new Call("set 0, " + bad, x -> x.set(0, bad), OUTSIDE));
            }
            for (int bad : beyond(0, 14)) {
                all.add(new Call("set " + bad, x -> x.set(bad, 5), UNKNOWN));
            }
            return all;
        }

        @Sentence("Terms | What is refused changes nothing.")
        static void refusedChangesNothing(BrassWays x) {
            for (int mix = 0; mix < 8; mix++) {
                int horn = mix & 1;
                boolean isFull = (mix & 2) != 0;
                boolean kept = (mix & 4) != 0;
                List<Call> calls = refusedAlways();
                if (isFull) {
                    calls.add(new Call("note 5", y -> y.note(5), FULL));
                } else {
                    calls.add(new Call("set 3", y -> y.set(3, 5), UNKNOWN));
                }
                if (!kept) {
                    calls.add(new Call("restore 0", y -> y.restore(0), STATE));
                    calls.add(new Call("restore 1", y -> y.restore(1), STATE));
                }
                if (horn == 1) {
                    calls.add(new Call("tune 0, 0", y -> y.tune(0, 0), STATE));
                }
                String want = whole(prepared(horn, isFull, kept));
                for (Call call : calls) {
                    BrassWays y = prepared(horn, isFull, kept);
                    due(call.words, call.asked.applyAsLong(y), call.want);
                    same("after " + call.words, whole(y), want);
                }
            }
        }

        @Sentence("Terms | All that is told is as things are when it is asked.")
        static void toldAsThingsAre(BrassWays x) {
            part(x, 12, 11);
            due("least(1)", x.least(1), 10);
            // 11 now takes the first valve, and 12 has no other way than before.
            x.valve(0, 100);
            x.valve(1, 200);
            due("least(1), valves changed", x.least(1), 9);
            due("ways(11, 0), valves changed", x.ways(11, 0), 9);
            x.horn(1);
            due("slide least(1)", x.least(1), 9);
            x.valve(0, 400);
            due("slide least(1), valve changed", x.least(1), 9);
            x.set(1, 10);
            due("slide least(1), note changed", x.least(1), 10);
            x.rule(MOVE, 9);
            due("slide least(-1), rule changed", x.least(-1), 18);
            due("slide effort(8, 10), rule changed", x.effort(8, 10), 18);
            x.clear();
            due("least(-1), part cleared", x.least(-1), 0);
            due("plans(0), part cleared", x.plans(0), 1);
        }

        @Sentence("Terms | Quotients are cut.")
        static void quotientsAreCut(BrassWays x) {
            // 19 is 2 off by the open third partial; settings that lower by 400 are of no use to it.
            lengths(x, 400, 400, 400, 0);
            x.note(19);
            int[] cost = {0, 0, 0, 0, 0, 1, 1, 1, 1, 1};
            for (int care = 0; care <= 9; care++) {
                x.rule(CARE, care);
                due("care " + care + " least(-1)", x.least(-1), cost[care]);
            }
        }

        @Sentence("Terms | The size of a number is that number without its sign.")
        static void sizeHasNoSign(BrassWays x) {
            // 34 is 31 too low by the open seventh partial: the fault is 9 times 31, by 10.
            lengths(x, 0, 0, 0, 0);
            x.note(34);
            x.rule(CARE, 9);
            due("off(48, 34)", x.off(48, 34), 9969);
            due("least(-1) too low", x.least(-1), 27);
            x.set(0, 31);
            due("least(-1) too high", x.least(-1), 1);
            x.rule(LIMIT, 30);
            due("ways(34, -1)", x.ways(34, -1), 0);
            // 1 is 100 too low by the open first partial, at best.
            x.set(0, 1);
            due("tune(0, 1) too low", x.tune(0, 1), 100);
        }
    }

    // ---- 1 the horn: what can be changed, and how far

    private static final class Horn {
        @Sentence("1 | THE HORN is 0, with VALVES 0, 1, 2 (at first), or 1, with a slide.")
        static void hornAtFirst(BrassWays x) {
            due("count(0)", x.count(0), 0);
            due("lowers(7)", x.lowers(7), 1570);
            x.horn(1);
            due("slide count(0)", x.count(0), 1);
            due("slide lowers(6)", x.lowers(6), 1600);
        }

        @Sentence("1 | Each VALVE has a LENGTH, 0 to 400 (200, 100 and 300 at first).")
        static void lengthsAtFirst(BrassWays x) {
            int[] first = {200, 100, 300};
            for (int valve = 0; valve < 3; valve++) {
                due("count(2" + valve + ")", x.count(20 + valve), first[valve]);
                due("lowers", x.lowers(1 << valve), 1000 + first[valve]);
                due("valve(" + valve + ", 0)", x.valve(valve, 0), first[valve]);
                due("valve(" + valve + ", 400)", x.valve(valve, 400), 0);
                due("lowers", x.lowers(1 << valve), 1400);
                due("valve(" + valve + ", 1)", x.valve(valve, 1), 400);
            }
        }

        private static void dueRule(BrassWays x, int what, int first, int top) {
            due("count(1" + what + ")", x.count(10 + what), first);
            due("rule(" + what + ", 0)", x.rule(what, 0), first);
            due("rule(" + what + ", top)", x.rule(what, top), 0);
            due("rule(" + what + ", top + 1)", x.rule(what, top + 1), OUTSIDE);
            due("rule(" + what + ", -1)", x.rule(what, -1), OUTSIDE);
            due("count(1" + what + ")", x.count(10 + what), top);
        }

        @Sentence("1 | 0 LOSS, 0 to 50 (10 at first)")
        static void ruleLoss(BrassWays x) {
            dueRule(x, LOSS, 10, 50);
        }

        @Sentence("1 | 1 LIMIT, 0 to 99 (35)")
        static void ruleLimit(BrassWays x) {
            dueRule(x, LIMIT, 35, 99);
        }

        @Sentence("1 | 2 MOVE, 0 to 9 (2)")
        static void ruleMove(BrassWays x) {
            dueRule(x, MOVE, 2, 9);
        }

        @Sentence("1 | 3 LIP, 0 to 9 (1)")
        static void ruleLip(BrassWays x) {
            dueRule(x, LIP, 1, 9);
        }

        @Sentence("1 | 4 CARE, 0 to 9 (1)")
        static void ruleCare(BrassWays x) {
            dueRule(x, CARE, 1, 9);
        }

        @Sentence("Promise 1 | A HORN with VALVES, no PART; no IMAGE is kept.")
        static void newObject(BrassWays x) {
            BrassWays other = new BrassWays();
            other.horn(1);
            full(other, 5);
            other.image(0);
            other.image(1);
            due("count(0)", x.count(0), 0);
            due("count(1)", x.count(1), 0);
            due("count(2)", x.count(2), 0);
            due("count(30)", x.count(30), NONE);
            due("clear()", x.clear(), 0);
            due("restore(0)", x.restore(0), STATE);
            due("restore(1)", x.restore(1), STATE);
        }

        @Sentence("Promise 2 | THE HORN is v: which it was.")
        static void hornWas(BrassWays x) {
            due("horn(0)", x.horn(0), 0);
            due("horn(1)", x.horn(1), 0);
            due("horn(1)", x.horn(1), 1);
            due("horn(0)", x.horn(0), 1);
            due("count(0)", x.count(0), 0);
        }

        @Sentence("Promise 2 | OUTSIDE.")
        static void hornOutside(BrassWays x) {
            for (int bad : beyond(0, 1)) {
                due("horn(" + bad + ")", x.horn(bad), OUTSIDE);
                due("count(0)", x.count(0), 0);
            }
        }

        @Sentence("Promise 3 | UNKNOWN (with a slide VALVES are there, too, though they do not count)")
        static void valveUnknown(BrassWays x) {
            for (int horn = 0; horn < 2; horn++) {
                x.horn(horn);
                for (int bad : beyond(0, 2)) {
                    due("valve(" + bad + ", 0)", x.valve(bad, 0), UNKNOWN);
                }
            }
            due("slide valve(0, 150)", x.valve(0, 150), 200);
            due("slide valve(2, 0)", x.valve(2, 0), 300);
            due("slide valve(1, 400)", x.valve(1, 400), 100);
            due("slide lowers(1)", x.lowers(1), 1100);
            due("slide lowers(2)", x.lowers(2), 1200);
            due("slide off(12, 8)", x.off(12, 8), 10000);
            x.horn(0);
            due("lowers(1)", x.lowers(1), 1150);
            due("lowers(2)", x.lowers(2), 1400);
            due("lowers(4)", x.lowers(4), 1000);
        }

        @Sentence("Promise 3 | OUTSIDE.")
        static void valveOutside(BrassWays x) {
            for (int horn = 0; horn < 2; horn++) {
                x.horn(horn);
                for (int bad : beyond(0, 400)) {
                    for (int valve = 0; valve < 3; valve++) {
                        due("valve(" + valve + ", " + bad + ")", x.valve(valve, bad), OUTSIDE);
                    }
                }
            }
            due("count(20)", x.count(20), 200);
            due("count(21)", x.count(21), 100);
            due("count(22)", x.count(22), 300);
        }

        @Sentence("Promise 4 | OUTSIDE: both.")
        static void ruleOutside(BrassWays x) {
            String before = state(x);
            int[] top = {50, 99, 9, 9, 9};
            for (int bad : beyond(0, 4)) {
                due("rule(" + bad + ", 0)", x.rule(bad, 0), OUTSIDE);
                due("rule(" + bad + ", -1)", x.rule(bad, -1), OUTSIDE);
            }
            for (int what = 0; what < 5; what++) {
                for (int bad : beyond(0, top[what])) {
                    due("rule(" + what + ", " + bad + ")", x.rule(what, bad), OUTSIDE);
                }
            }
            same("after all", state(x), before);
        }
    }

    // ---- 1 the horn: settings, ways and notes

    private static final class Settings {
        @Sentence("1 | PARTIALS are 1 to 8; HIGH of them, in hundredths of a step: 0, 1200, 1902, 2400,"
                + " 2786, 3102, 3369, 3600.")
        static void partials(BrassWays x) {
            int[] high = {0, 1200, 1902, 2400, 2786, 3102, 3369, 3600};
            for (int partial = 1; partial <= 8; partial++) {
                int open = (partial - 1) * 8;
                due("off(" + open + ", 0)", x.off(open, 0), 10000 + high[partial - 1]);
            }
            due("ninth partial, off(64, 0)", x.off(64, 0), OUTSIDE);
        }

        @Sentence("1 | with VALVES 0 to 7, the set of those that are pressed (bit v, of the value 1"
                + " shifted left by v, for VALVE v)")
        static void settingsWithValves(BrassWays x) {
            lengths(x, 1, 20, 300, 0);
            int[] drop = {0, 1, 20, 21, 300, 301, 320, 321};
            for (int setting = 0; setting <= 7; setting++) {
                due("lowers(" + setting + ")", x.lowers(setting), 1000 + drop[setting]);
            }
            due("lowers(8)", x.lowers(8), OUTSIDE);
        }

        @Sentence("1 | with a slide 0 to 6, how far it is out")
        static void settingsWithSlide(BrassWays x) {
            x.horn(1);
            due("lowers(0)", x.lowers(0), 1000);
            due("lowers(6)", x.lowers(6), 1600);
            due("lowers(7)", x.lowers(7), OUTSIDE);
            // Were it to go to 7, it would sound 5 by the second partial, and 12 by the third.
            due("ways(5, -1)", x.ways(5, -1), 0);
            due("ways(12, -1)", x.ways(12, -1), 1);
        }

        @Sentence("1 | with VALVES by LENGTHS of those that are pressed, added, less LOSS for each two"
                + " of them")
        static void lossOfEachTwo(BrassWays x) {
            int[] pairs = {0, 0, 0, 1, 0, 1, 1, 3};
            int[] valves = {0, 1, 1, 2, 1, 2, 2, 3};
            for (int loss = 0; loss <= 50; loss += 25) {
                for (int length = 0; length <= 400; length += 200) {
                    lengths(x, length, length, length, loss);
                    for (int setting = 0; setting < 8; setting++) {
                        due("lowers(" + setting + ")", x.lowers(setting),
                                1000 + length * valves[setting] - loss * pairs[setting]);
                    }
                }
            }
        }

        @Sentence("1 | with a slide by 100 times as far as it is out")
        static void slideLowers(BrassWays x) {
            lengths(x, 399, 398, 397, 50);
            x.horn(1);
            for (int far = 0; far <= 6; far++) {
                due("lowers(" + far + ")", x.lowers(far), 1000 + 100 * far);
            }
        }

        @Sentence("1 | told as a number 0 to 63: the PARTIAL less 1, that times 8, and the SETTING, added")
        static void wayNumbers(BrassWays x) {
            lengths(x, 1, 2, 4, 0);
            int[] high = {0, 1200, 1902, 2400, 2786, 3102, 3369, 3600};
            for (int way = 0; way <= 63; way++) {
                due("off(" + way + ", 0)", x.off(way, 0), 10000 + high[way / 8] - way % 8);
            }
            due("off(-1, 0)", x.off(-1, 0), OUTSIDE);
            due("off(64, 0)", x.off(64, 0), OUTSIDE);
        }

        @Sentence("1 | NOTES are 0 to 36.")
        static void notes(BrassWays x) {
            due("note(0)", x.note(0), 0);
            due("note(36)", x.note(36), 1);
            due("truest(0)", x.truest(0), 0);
            due("truest(36)", x.truest(36), 56);
            due("note(-1)", x.note(-1), OUTSIDE);
            due("note(37)", x.note(37), OUTSIDE);
        }

        @Sentence("1 | OFF of a WAY for a NOTE n: HIGH of the PARTIAL, less what the SETTING LOWERS,"
                + " less 100 n.")
        static void offAtItsEnds(BrassWays x) {
            lengths(x, 400, 400, 400, 0);
            due("lowest, off(7, 36)", x.off(7, 36), 5200);
            lengths(x, 0, 0, 0, 50);
            due("highest, off(63, 0)", x.off(63, 0), 13750);
            due("true, off(56, 36)", x.off(56, 36), 10000);
            x.horn(1);
            due("slide lowest, off(6, 36)", x.off(6, 36), 5800);
            due("slide highest, off(56, 0)", x.off(56, 0), 13600);
        }

        @Sentence("1 | It SOUNDS the NOTE, if the size of OFF is LIMIT or less.")
        static void soundsWithinLimit(BrassWays x) {
            // 11 by the second partial and the first valve is off by 100 less its length.
            for (int limit : new int[] {0, 1, 35, 98, 99}) {
                x.rule(LIMIT, limit);
                x.valve(0, 100 - limit);
                dueSounds("high by limit " + limit, x, 9, 11, true);
                x.valve(0, 100 + limit);
                dueSounds("low by limit " + limit, x, 9, 11, true);
                x.valve(0, 99 - limit);
                dueSounds("high by limit " + limit + " and 1", x, 9, 11, false);
                x.valve(0, 101 + limit);
                dueSounds("low by limit " + limit + " and 1", x, 9, 11, false);
            }
        }

        @Sentence("1 | WAYS of a NOTE: those that SOUND it, by rising numbers.")
        static void waysRise(BrassWays x) {
            // The most that a note can have: each setting by the one partial that is near.
            lengths(x, 0, 0, 0, 0);
            x.rule(LIMIT, 99);
            int[] near = {0, 12, 19, 24, 28, 31, 34, 36};
            for (int partial = 0; partial < 8; partial++) {
                due("ways(" + near[partial] + ", -1)", x.ways(near[partial], -1), 8);
                for (int i = 0; i < 8; i++) {
                    due("ways(" + near[partial] + ", " + i + ")", x.ways(near[partial], i), partial * 8 + i);
                }
            }
        }
    }

    // ---- 1 the horn: what is told of it

    private static final class Tells {
        @Sentence("Promise 5 | By how much a SETTING LOWERS, and 1000, added.")
        static void lowersBelowNothing(BrassWays x) {
            lengths(x, 0, 0, 0, 50);
            due("lowers(0)", x.lowers(0), 1000);
            due("lowers(4)", x.lowers(4), 1000);
            due("lowers(6)", x.lowers(6), 950);
            due("lowers(7)", x.lowers(7), 850);
            lengths(x, 400, 400, 400, 0);
            due("lowers(7)", x.lowers(7), 2200);
        }

        @Sentence("Promise 5 | OUTSIDE: there is no such SETTING.")
        static void lowersOutside(BrassWays x) {
            due("lowers(7)", x.lowers(7), 1570);
            for (int bad : beyond(0, 7)) {
                due("lowers(" + bad + ")", x.lowers(bad), OUTSIDE);
            }
            x.horn(1);
            for (int bad : beyond(0, 6)) {
                due("slide lowers(" + bad + ")", x.lowers(bad), OUTSIDE);
            }
        }

        @Sentence("Promise 6 | OUTSIDE: there is no such WAY, or NOTE.")
        static void offOutside(BrassWays x) {
            for (int horn = 0; horn < 2; horn++) {
                x.horn(horn);
                for (int bad : beyond(0, 63)) {
                    due("off(" + bad + ", 36)", x.off(bad, 36), OUTSIDE);
                }
                for (int bad : beyond(0, 36)) {
                    due("off(62, " + bad + ")", x.off(62, bad), OUTSIDE);
                }
            }
            for (int partial = 0; partial < 8; partial++) {
                due("slide off", x.off(partial * 8 + 7, 0), OUTSIDE);
                due("slide off", x.off(partial * 8 + 6, 0) > 0 ? 1 : 0, 1);
            }
            x.horn(0);
            due("off(63, 36)", x.off(63, 36), 9430);
            due("off(0, 0)", x.off(0, 0), 10000);
        }

        @Sentence("Promise 7 | how many (i = -1), the i-th, from 0 on")
        static void waysCounted(BrassWays x) {
            due("ways(28, -1)", x.ways(28, -1), 4);
            due("ways(28, 0)", x.ways(28, 0), 32);
            due("ways(28, 3)", x.ways(28, 3), 55);
            due("ways(1, -1)", x.ways(1, -1), 0);
        }

        @Sentence("Promise 7 | NONE: there is none such.")
        static void waysNone(BrassWays x) {
            due("ways(28, 4)", x.ways(28, 4), NONE);
            due("ways(28, 64)", x.ways(28, 64), NONE);
            due("ways(28, TOP)", x.ways(28, TOP), NONE);
            due("ways(1, 0)", x.ways(1, 0), NONE);
            lengths(x, 0, 0, 0, 0);
            due("ways(12, 7)", x.ways(12, 7), 15);
            due("ways(12, 8)", x.ways(12, 8), NONE);
        }

        @Sentence("Promise 7 | OUTSIDE: the NOTE, i is below -1.")
        static void waysOutside(BrassWays x) {
            for (int bad : beyond(0, 36)) {
                due("ways(" + bad + ", -1)", x.ways(bad, -1), OUTSIDE);
                due("ways(" + bad + ", 0)", x.ways(bad, 0), OUTSIDE);
            }
            for (int bad : new int[] {-2, -3, -64, LOW, LOW + 1}) {
                due("ways(12, " + bad + ")", x.ways(12, bad), OUTSIDE);
            }
            due("ways(0, -1)", x.ways(0, -1), 1);
            due("ways(36, -1)", x.ways(36, -1), 1);
        }

        @Sentence("Promise 8 | that of which the size of OFF is least, of several the least")
        static void truestOfSeveral(BrassWays x) {
            lengths(x, 100, 100, 400, 0);
            due("alike, truest(11)", x.truest(11), 9);
            lengths(x, 110, 90, 400, 0);
            due("too low and too high, truest(11)", x.truest(11), 9);
            lengths(x, 90, 110, 400, 0);
            due("too high and too low, truest(11)", x.truest(11), 9);
            lengths(x, 90, 109, 400, 0);
            due("by one truer, truest(11)", x.truest(11), 10);
        }

        @Sentence("Promise 8 | NONE: it has none.")
        static void truestNone(BrassWays x) {
            due("truest(1)", x.truest(1), NONE);
            // 19 is 2 off by the open third partial, at best.
            lengths(x, 0, 0, 0, 0);
            x.rule(LIMIT, 2);
            due("limit 2 truest(19)", x.truest(19), 16);
            x.rule(LIMIT, 1);
            due("limit 1 truest(19)", x.truest(19), NONE);
            x.rule(LIMIT, 0);
            due("limit 0 truest(12)", x.truest(12), 8);
        }

        @Sentence("Promise 8 | OUTSIDE.")
        static void truestOutside(BrassWays x) {
            for (int bad : beyond(0, 36)) {
                due("truest(" + bad + ")", x.truest(bad), OUTSIDE);
            }
        }

        @Sentence("Promise 9 | How many NOTES have a WAY (what = -1), or have what WAYS (0 to 64).")
        static void rangeEnds(BrassWays x) {
            // 1 to 5 have none, and many have one alone.
            due("at first range(-1)", x.range(-1), 32);
            due("at first range(0)", x.range(0), 5);
            due("at first range(1)", x.range(1), 14);
            lengths(x, 0, 0, 0, 0);
            int[] near = {-1, 0, 1, 7, 8, 9, 64};
            int[] want = {8, 29, 0, 0, 8, 0, 0};
            for (int i = 0; i < near.length; i++) {
                due("range(" + near[i] + ")", x.range(near[i]), want[i]);
            }
            // Only 0, 12, 24 and 36 are wholly true.
            x.rule(LIMIT, 0);
            due("limit 0 range(-1)", x.range(-1), 4);
            due("limit 0 range(0)", x.range(0), 33);
            x.horn(1);
            x.rule(LIMIT, 99);
            int all = 0;
            for (int what = 0; what <= 64; what++) {
                all += x.range(what);
            }
            due("slide, all ranges added", all, 37);
        }

        @Sentence("Promise 9 | OUTSIDE.")
        static void rangeOutside(BrassWays x) {
            for (int bad : beyond(-1, 64)) {
                due("range(" + bad + ")", x.range(bad), OUTSIDE);
            }
        }
    }

    // ---- 2 parts

    private static final class Part {
        @Sentence("2 | THE PART: up to 12 NOTES, at PLACES from 0 on.")
        static void placesFromNothingOn(BrassWays x) {
            for (int place = 0; place < 12; place++) {
                due("note", x.note(3 * place), place);
                due("count(1)", x.count(1), place + 1);
            }
            for (int place = 0; place < 12; place++) {
                due("count(" + (30 + place) + ")", x.count(30 + place), 3 * place);
            }
        }

        @Sentence("Promise 10 | A NOTE more, behind all of THE PART: its PLACE.")
        static void noteBehindAll(BrassWays x) {
            due("note(0)", x.note(0), 0);
            due("note(36)", x.note(36), 1);
            due("note(36)", x.note(36), 2);
            due("count(30)", x.count(30), 0);
            due("count(32)", x.count(32), 36);
            due("count(33)", x.count(33), NONE);
            // A note that has no way is one of the part, too.
            due("note(1)", x.note(1), 3);
        }

        @Sentence("Promise 10 | OUTSIDE;")
        static void noteOutside(BrassWays x) {
            for (int bad : beyond(0, 36)) {
                due("note(" + bad + ")", x.note(bad), OUTSIDE);
                due("count(1)", x.count(1), 0);
            }
        }

        @Sentence("Promise 10 | FULL: it has 12.")
        static void noteFull(BrassWays x) {
            for (int place = 0; place < 12; place++) {
                due("note(0)", x.note(0), place);
            }
            due("note(0), the thirteenth", x.note(0), FULL);
            due("note(36), again", x.note(36), FULL);
            due("count(1)", x.count(1), 12);
            due("count(41)", x.count(41), 0);
            x.clear();
            due("note(7), after clear", x.note(7), 0);
        }

        @Sentence("Promise 11 | The NOTE at a PLACE is another one (or the same): which it was.")
        static void setWas(BrassWays x) {
            full(x, 5);
            due("set(0, 36)", x.set(0, 36), 5);
            due("set(0, 36), the same", x.set(0, 36), 36);
            due("set(11, 0)", x.set(11, 0), 5);
            due("set(11, 0), the same", x.set(11, 0), 0);
            due("count(30)", x.count(30), 36);
            due("count(31)", x.count(31), 5);
            due("count(40)", x.count(40), 5);
            due("count(41)", x.count(41), 0);
            due("count(1)", x.count(1), 12);
        }

        @Sentence("Promise 11 | UNKNOWN;")
        static void setUnknown(BrassWays x) {
            due("set(0, 5) without notes", x.set(0, 5), UNKNOWN);
            part(x, 5, 6);
            due("set(2, 5)", x.set(2, 5), UNKNOWN);
            due("set(-1, 5)", x.set(-1, 5), UNKNOWN);
            due("count(32)", x.count(32), NONE);
            x.clear();
            due("set(0, 5) after clear", x.set(0, 5), UNKNOWN);
            full(x, 5);
            for (int bad : beyond(0, 11)) {
                due("set(" + bad + ", 6)", x.set(bad, 6), UNKNOWN);
            }
        }

        @Sentence("Promise 11 | OUTSIDE.")
        static void setOutside(BrassWays x) {
            full(x, 5);
            for (int bad : beyond(0, 36)) {
                due("set(0, " + bad + ")", x.set(0, bad), OUTSIDE);
                due("set(11, " + bad + ")", x.set(11, bad), OUTSIDE);
            }
            due("count(30)", x.count(30), 5);
            due("count(41)", x.count(41), 5);
        }

        @Sentence("Promise 12 | THE PART has no NOTES: how many it had.")
        static void clearEmptyAndFull(BrassWays x) {
            due("clear() of none", x.clear(), 0);
            x.note(36);
            due("clear() of one", x.clear(), 1);
            full(x, 9);
            due("clear() of twelve", x.clear(), 12);
            due("clear() again", x.clear(), 0);
            due("count(1)", x.count(1), 0);
            for (int what = 30; what <= 41; what++) {
                due("count(" + what + ")", x.count(what), NONE);
            }
            due("dumb()", x.dumb(), NONE);
            due("least(-1)", x.least(-1), 0);
        }

        @Sentence("Promise 16 | The first PLACE of which the NOTE has no WAY")
        static void dumbFirst(BrassWays x) {
            full(x, 12);
            x.set(11, 1);
            due("dumb() at the last place", x.dumb(), 11);
            x.set(6, 2);
            due("dumb() of two", x.dumb(), 6);
            x.set(0, 3);
            due("dumb() at the first place", x.dumb(), 0);
        }

        @Sentence("Promise 16 | NONE: there is none such.")
        static void dumbNone(BrassWays x) {
            due("dumb() without notes", x.dumb(), NONE);
            full(x, 12);
            due("dumb() of twelve", x.dumb(), NONE);
            x.set(0, 1);
            x.clear();
            due("dumb() after clear", x.dumb(), NONE);
            // 34 is 31 too low by the open seventh partial, at best.
            lengths(x, 0, 0, 0, 0);
            x.note(34);
            x.rule(LIMIT, 31);
            due("limit 31 dumb()", x.dumb(), NONE);
            x.rule(LIMIT, 30);
            due("limit 30 dumb()", x.dumb(), 0);
        }
    }

    // ---- 2 parts: efforts and plans

    private static final class Plans {
        @Sentence("2 | MOVE times how many VALVES are pressed in just one of them ... and LIP times how"
                + " far the one PARTIAL is from the other one, added")
        static void effortAtItsEnds(BrassWays x) {
            due("effort(21, 21)", x.effort(21, 21), 0);
            due("effort(0, 7)", x.effort(0, 7), 6);
            due("effort(3, 4)", x.effort(3, 4), 6);
            due("effort(0, 56)", x.effort(0, 56), 7);
            due("effort(56, 0)", x.effort(56, 0), 7);
            due("effort(7, 8)", x.effort(7, 8), 7);
            rules(x, 9, 9, 1);
            due("effort(0, 63)", x.effort(0, 63), 90);
            due("effort(63, 0)", x.effort(63, 0), 90);
            rules(x, 0, 9, 1);
            due("move 0 effort(0, 63)", x.effort(0, 63), 63);
            rules(x, 9, 0, 1);
            due("lip 0 effort(0, 63)", x.effort(0, 63), 27);
            rules(x, 0, 0, 9);
            due("both 0 effort(0, 63)", x.effort(0, 63), 0);
        }

        @Sentence("2 | (with a slide: how far the one SETTING is from the other one)")
        static void effortWithSlide(BrassWays x) {
            x.horn(1);
            due("effort(62, 62)", x.effort(62, 62), 0);
            due("effort(0, 6)", x.effort(0, 6), 12);
            due("effort(6, 0)", x.effort(6, 0), 12);
            due("effort(3, 4)", x.effort(3, 4), 2);
            rules(x, 9, 9, 1);
            due("effort(0, 62)", x.effort(0, 62), 117);
            due("effort(6, 56)", x.effort(6, 56), 117);
        }

        @Sentence("Promise 13 | OUTSIDE: there are no such WAYS.")
        static void effortOutside(BrassWays x) {
            for (int horn = 0; horn < 2; horn++) {
                x.horn(horn);
                for (int bad : beyond(0, 63)) {
                    due("effort(" + bad + ", 0)", x.effort(bad, 0), OUTSIDE);
                    due("effort(0, " + bad + ")", x.effort(0, bad), OUTSIDE);
                    due("effort twice " + bad, x.effort(bad, bad), OUTSIDE);
                }
            }
            for (int way = 7; way < 64; way += 8) {
                due("slide effort(" + way + ", 0)", x.effort(way, 0), OUTSIDE);
                due("slide effort(0, " + way + ")", x.effort(0, way), OUTSIDE);
            }
        }

        @Sentence("2 | FAULT of a WAY for a NOTE: CARE times the size of OFF, by 10.")
        static void faultIsCutByItself(BrassWays x) {
            // 19 is 2 off by the open third partial: 9 times 2, by 10, at each of 12 places.
            lengths(x, 400, 400, 400, 0);
            full(x, 19);
            x.rule(CARE, 9);
            due("least(-1) of twelve", x.least(-1), 12);
            x.rule(CARE, 4);
            due("least(-1), less than 10 at each", x.least(-1), 0);
            x.rule(CARE, 5);
            due("least(-1), just 10 at each", x.least(-1), 12);
            // The most: 11 is 99 off by the second partial and a valve of 1.
            x.clear();
            x.note(11);
            lengths(x, 1, 300, 300, 0);
            x.rule(LIMIT, 99);
            x.rule(CARE, 9);
            due("least(-1), the most", x.least(-1), 89);
        }

        @Sentence("2 | A PLAN has for each PLACE a WAY that SOUNDS its NOTE")
        static void planNeedsEachPlace(BrassWays x) {
            for (int dumb = 0; dumb < 12; dumb++) {
                x.clear();
                full(x, 12);
                due("plans(0)", x.plans(0), 1);
                x.set(dumb, 1);
                due("plans(0), place " + dumb + " without a way", x.plans(0), 0);
                due("least(-1), place " + dumb + " without a way", x.least(-1), NONE);
            }
        }

        @Sentence("2 | (without NOTES there is one, its COST is 0)")
        static void planWithoutNotes(BrassWays x) {
            for (int turn = 0; turn < 2; turn++) {
                due("plans(0)", x.plans(0), 1);
                due("plans(1)", x.plans(1), 1);
                due("least(-1)", x.least(-1), 0);
                part(x, 1, 9);
                due("plans(0) with notes", x.plans(0), 0);
                x.clear();
                x.horn(1);
            }
        }

        @Sentence("2 | FAULTS of all its WAYS, and EFFORT of each two at PLACES that follow one another,"
                + " added")
        static void costOfFollowingPlaces(BrassWays x) {
            // No setting lowers, so the lips alone move: by 1, 2 and 3 partials.
            lengths(x, 0, 0, 0, 0);
            x.note(0);
            due("least(-1) of one", x.least(-1), 0);
            x.note(12);
            due("least(-1) of two", x.least(-1), 1);
            x.note(24);
            due("least(-1) of three", x.least(-1), 3);
            x.note(0);
            due("least(-1) there and back", x.least(-1), 6);
            // The most there can be: 12 places, each 9 times 7 from the next one.
            x.clear();
            rules(x, 9, 9, 9);
            for (int place = 0; place < 12; place++) {
                x.note(place % 2 == 0 ? 0 : 36);
            }
            due("least(-1) of twelve", x.least(-1), 11 * 63);
        }

        // Of 9 and 28 the plans 11, 43 and 12, 32 and 12, 44 have the least cost, 4.
        private static void threeAlike(BrassWays x) {
            x.rule(LOSS, 0);
            rules(x, 1, 1, 0);
            part(x, 9, 28);
        }

        @Sentence("2 | of such that which has, at the first PLACE at which they differ, the lesser WAY")
        static void leastOfAlike(BrassWays x) {
            threeAlike(x);
            due("least(-1)", x.least(-1), 4);
            due("least(0)", x.least(0), 11);
            due("least(1)", x.least(1), 43);
            // The other way round: 32, 12 and 43, 11 and 44, 12.
            x.set(0, 28);
            x.set(1, 9);
            due("turned least(0)", x.least(0), 32);
            due("turned least(1)", x.least(1), 12);
            // All plans are alike: the lesser way at each place.
            x.clear();
            full(x, 28);
            rules(x, 0, 0, 0);
            for (int i = 0; i < 12; i++) {
                due("all alike least(" + i + ")", x.least(i), 32);
            }
        }

        @Sentence("Promise 14 | its COST (i = -1), its WAY at PLACE i, from 0 on")
        static void leastAtItsEnds(BrassWays x) {
            // 9 is 10 off by two valves, and true by the third.
            x.note(9);
            due("least(-1) of one", x.least(-1), 0);
            due("least(0) of one", x.least(0), 12);
            x.clear();
            for (int place = 0; place < 12; place++) {
                x.note(place % 2 == 0 ? 12 : 11);
            }
            due("least(-1)", x.least(-1), 22);
            for (int i = 0; i < 12; i++) {
                due("least(" + i + ")", x.least(i), i % 2 == 0 ? 8 : 10);
            }
        }

        @Sentence("Promise 14 | NONE: there is no PLAN, or no such PLACE.")
        static void leastNone(BrassWays x) {
            due("least(0) without notes", x.least(0), NONE);
            x.note(12);
            due("least(0) of one", x.least(0), 8);
            due("least(1) of one", x.least(1), NONE);
            x.note(1);
            for (int i = -1; i < 13; i++) {
                due("least(" + i + ") without a plan", x.least(i), NONE);
            }
            x.clear();
            full(x, 12);
            due("least(11) of twelve", x.least(11), 8);
            for (int i : new int[] {12, 13, 64, TOP}) {
                due("least(" + i + ") of twelve", x.least(i), NONE);
            }
            x.clear();
            due("least(0) after clear", x.least(0), NONE);
        }

        @Sentence("Promise 14 | OUTSIDE: i is below -1.")
        static void leastOutside(BrassWays x) {
            for (int notes = 0; notes < 2; notes++) {
                for (int bad : new int[] {-2, -3, -12, -64, LOW, LOW + 1}) {
                    due("least(" + bad + ")", x.least(bad), OUTSIDE);
                }
                x.note(12);
            }
        }

        @Sentence("Promise 15 | How many PLANS there are (what = 0)")
        static void plansAll(BrassWays x) {
            lengths(x, 0, 0, 0, 0);
            long all = 1;
            for (int place = 0; place < 12; place++) {
                x.note(12);
                all *= 8;
                due("plans(0) of " + (place + 1), x.plans(0), all);
            }
            x.set(11, 1);
            due("plans(0), one without a way", x.plans(0), 0);
        }

        @Sentence("Promise 15 | how many of these have the least COST (1)")
        static void plansOfLeastCost(BrassWays x) {
            threeAlike(x);
            due("plans(1)", x.plans(1), 3);
            x.set(0, 28);
            x.set(1, 9);
            due("plans(1), turned", x.plans(1), 3);
            x.note(1);
            due("plans(1) without a plan", x.plans(1), 0);
            x.clear();
            lengths(x, 0, 0, 0, 0);
            full(x, 12);
            due("plans(1), no setting lowers", x.plans(1), 8);
            // Beyond what an int holds.
            rules(x, 0, 0, 0);
            due("plans(1), nothing costs", x.plans(1), 68719476736L);
        }

        @Sentence("Promise 15 | how many WAYS at a PLACE are of any PLAN of the least COST (10 and the"
                + " PLACE, added")
        static void plansWaysAtPlace(BrassWays x) {
            threeAlike(x);
            due("plans(10)", x.plans(10), 2);
            due("plans(11)", x.plans(11), 3);
            x.clear();
            lengths(x, 0, 0, 0, 0);
            full(x, 12);
            x.set(11, 0);
            due("plans(10), the first of twelve", x.plans(10), 8);
            due("plans(21), the last of twelve", x.plans(21), 8);
            // Now every setting but the open one lowers too far.
            lengths(x, 400, 400, 400, 0);
            due("plans(10), one way each", x.plans(10), 1);
            due("plans(21), one way each", x.plans(21), 1);
        }

        @Sentence("Promise 15 | are of any PLAN of the least COST")
        static void plansWaysOfLeastCostAlone(BrassWays x) {
            // Behind 12, which is open, 9 is best by one valve: 12, 32 and 12, 44 are left.
            threeAlike(x);
            x.clear();
            full(x, 12);
            x.set(10, 9);
            x.set(11, 28);
            due("plans(10)", x.plans(10), 1);
            due("plans(19)", x.plans(19), 1);
            due("plans(20)", x.plans(20), 1);
            due("plans(21)", x.plans(21), 2);
            // 9 alone is truer by its second way.
            x.clear();
            x.note(9);
            lengths(x, 200, 101, 300, 0);
            x.rule(CARE, 9);
            due("plans(10), 1 off is no fault", x.plans(10), 2);
            x.valve(1, 102);
            due("plans(10), 2 off is one", x.plans(10), 1);
        }

        @Sentence("Promise 15 | NONE: there is no such PLACE, or no PLAN)")
        static void plansNone(BrassWays x) {
            for (int place = 0; place < 12; place++) {
                for (int what = 10 + place; what <= 21; what++) {
                    due("plans(" + what + ") of " + place, x.plans(what), NONE);
                }
                x.note(12);
                due("plans(" + (10 + place) + ") of " + (place + 1), x.plans(10 + place), 1);
            }
            x.set(5, 1);
            for (int what = 10; what <= 21; what++) {
                due("plans(" + what + ") without a plan", x.plans(what), NONE);
            }
        }

        @Sentence("Promise 15 | OUTSIDE: what is not 0, 1, nor 10 to 21.")
        static void plansOutside(BrassWays x) {
            for (int turn = 0; turn < 2; turn++) {
                for (int what = 2; what < 10; what++) {
                    due("plans(" + what + ")", x.plans(what), OUTSIDE);
                }
                for (int bad : beyond(0, 21)) {
                    due("plans(" + bad + ")", x.plans(bad), OUTSIDE);
                }
                full(x, 12);
            }
        }
    }

    // ---- 3 trills

    private static final class Trills {
        @Sentence("3 | TRILL of two NOTES: the least EFFORT of any WAY of the one and any of the other one.")
        static void trillIsLeast(BrassWays x) {
            // 28 has ways 32, 43, 44, 55; 27 has 34 and 46: 32 and 34 are the nearest.
            due("trill(28, 27)", x.trill(28, 27), 2);
            due("trill(27, 28)", x.trill(27, 28), 2);
            // 11 and 43, or 12 and 44: never by the first way of 28.
            due("trill(9, 28)", x.trill(9, 28), 4);
            due("trill(28, 9)", x.trill(28, 9), 4);
            // The part has nothing to do with it.
            full(x, 1);
            due("trill(0, 36)", x.trill(0, 36), 7);
            due("trill(36, 0)", x.trill(36, 0), 7);
            rules(x, 9, 9, 9);
            due("trill(0, 36), dear", x.trill(0, 36), 63);
            rules(x, 0, 0, 9);
            due("trill(0, 36), free", x.trill(0, 36), 0);
            // 24 by the fourth partial, 30 by the eighth alone, and 6 out.
            x.horn(1);
            rules(x, 9, 9, 0);
            x.rule(LIMIT, 0);
            due("slide trill(24, 30)", x.trill(24, 30), 90);
        }

        @Sentence("Promise 17 | TRILL of two NOTES (or of one)")
        static void trillOfOne(BrassWays x) {
            for (int note = 0; note <= 36; note++) {
                int want = x.ways(note, -1) > 0 ? 0 : NONE;
                due("trill of " + note + " alone", x.trill(note, note), want);
            }
            due("trill(0, 0)", x.trill(0, 0), 0);
            due("trill(36, 36)", x.trill(36, 36), 0);
        }

        @Sentence("Promise 17 | NONE: either has no WAY.")
        static void trillNone(BrassWays x) {
            due("trill(1, 12)", x.trill(1, 12), NONE);
            due("trill(12, 1)", x.trill(12, 1), NONE);
            due("trill(1, 2)", x.trill(1, 2), NONE);
            due("trill(1, 1)", x.trill(1, 1), NONE);
            due("trill(12, 0)", x.trill(12, 0), 1);
        }

        @Sentence("Promise 17 | OUTSIDE: both.")
        static void trillOutside(BrassWays x) {
            for (int bad : beyond(0, 36)) {
                due("trill(" + bad + ", 12)", x.trill(bad, 12), OUTSIDE);
                due("trill(12, " + bad + ")", x.trill(12, bad), OUTSIDE);
                due("trill of " + bad + " alone", x.trill(bad, bad), OUTSIDE);
            }
        }

        // All three valves raise by 120 and two of them by 40; one alone does nothing. A step
        // costs 4 from 0, 12, 19, 24 and 31, 2 from 28 and 34, and 5 from 35.
        private static void raising(BrassWays x) {
            lengths(x, 0, 0, 0, 40);
            x.rule(LIMIT, 30);
        }

        @Sentence("Promise 18 | How many NOTES there are, 0 to 36 less d, that with that d higher make a"
                + " TRILL of more than limit")
        static void awkwardFromEndToEnd(BrassWays x) {
            raising(x);
            int[] want = {8, 8, 6, 6, 1, 0};
            for (int limit = 0; limit < want.length; limit++) {
                due("awkward(1, " + limit + ")", x.awkward(1, limit), want[limit]);
            }
            // 0 and 12, 12 and 24, 19 and 31, 24 and 36: by 1, 2, 3 and 4 partials.
            lengths(x, 0, 0, 0, 0);
            x.rule(LIMIT, 35);
            int[] octaves = {4, 3, 2, 1, 0};
            for (int limit = 0; limit < octaves.length; limit++) {
                due("awkward(12, " + limit + ")", x.awkward(12, limit), octaves[limit]);
            }
            due("awkward(11, 0), none has a way", x.awkward(11, 0), 0);
        }

        @Sentence("Promise 18 | d 1 to 12, limit 0 to 99")
        static void awkwardSpans(BrassWays x) {
            x.horn(1);
            rules(x, 9, 9, 0);
            x.rule(LIMIT, 0);
            // 90 is the trill of 24 and 30.
            due("awkward(6, 89)", x.awkward(6, 89), 1);
            due("awkward(6, 90)", x.awkward(6, 90), 0);
            due("awkward(6, 99)", x.awkward(6, 99), 0);
            for (int d = 1; d <= 12; d++) {
                due("awkward(" + d + ", 99)", x.awkward(d, 99), 0);
                due("awkward(" + d + ", 0) is told", x.awkward(d, 0) >= 0 ? 1 : 0, 1);
            }
        }

        @Sentence("Promise 18 | OUTSIDE: both.")
        static void awkwardOutside(BrassWays x) {
            for (int bad : beyond(1, 12)) {
                due("awkward(" + bad + ", 0)", x.awkward(bad, 0), OUTSIDE);
                due("awkward(" + bad + ", 100)", x.awkward(bad, 100), OUTSIDE);
            }
            for (int bad : beyond(0, 99)) {
                due("awkward(1, " + bad + ")", x.awkward(1, bad), OUTSIDE);
                due("awkward(12, " + bad + ")", x.awkward(12, bad), OUTSIDE);
            }
        }
    }

    // ---- 3 tuning

    private static final class Tuning {
        private static void dueTune(String when, BrassWays x, int valve, int length, int rest) {
            due(when + " tune(" + valve + ", 0)", x.tune(valve, 0), length);
            due(when + " tune(" + valve + ", 1)", x.tune(valve, 1), rest);
        }

        @Sentence("3 | LENGTHS 0 to 400 by fives")
        static void lengthsByFives(BrassWays x) {
            lengths(x, 0, 0, 0, 0);
            for (int valve = 0; valve < 3; valve++) {
                x.clear();
                x.note(8);
                dueTune("400 would do, 8", x, valve, 400, 0);
                x.set(0, 7);
                dueTune("500 would do, 7", x, valve, 400, 100);
                x.set(0, 1);
                dueTune("-100 would do, 1", x, valve, 0, 100);
                x.set(0, 12);
                dueTune("0 would do, 12", x, valve, 0, 0);
                // 31 is 269 below the seventh partial and 2 below the sixth.
                x.set(0, 31);
                dueTune("269 would do, 31", x, valve, 270, 1);
                x.valve(valve, 269);
                dueTune("269 is there, 31", x, valve, 270, 1);
                x.set(0, 12);
                dueTune("all will do, 12", x, valve, 0, 0);
                x.set(0, 26);
                dueTune("186 would do, 26", x, valve, 185, 1);
                x.valve(valve, 0);
            }
        }

        @Sentence("3 | all else as it is")
        static void allElseAsItIs(BrassWays x) {
            lengths(x, 0, 4, 0, 0);
            x.note(31);
            String before = state(x);
            dueTune("4 and 265", x, 2, 265, 0);
            same("tune asks only", state(x), before);
            x.rule(LOSS, 5);
            dueTune("4 and 270, less 5", x, 2, 270, 0);
        }

        @Sentence("3 | for each PLACE of THE PART the least size of OFF of any WAY, whether it SOUNDS the"
                + " NOTE or not, all added")
        static void wholePartAdded(BrassWays x) {
            part(x, 12, 11);
            dueTune("12 open, 11 by 100", x, 1, 100, 0);
            lengths(x, 0, 0, 0, 0);
            for (int limit : new int[] {0, 99}) {
                x.rule(LIMIT, limit);
                x.clear();
                dueTune("without notes", x, 1, 0, 0);
                full(x, 1);
                dueTune("twelve times 1, limit " + limit, x, 1, 0, 1200);
                x.set(11, 11);
                dueTune("eleven times 1, and 11, limit " + limit, x, 1, 100, 1100);
                x.set(0, 11);
                dueTune("ten times 1, and 11 twice, limit " + limit, x, 1, 100, 1000);
            }
        }

        @Sentence("3 | that LENGTH by which this is least, of several the least")
        static void ofSeveralTheLeast(BrassWays x) {
            // 100 mends 11, 200 mends 10, and all between are as good.
            lengths(x, 0, 0, 0, 0);
            part(x, 10, 11);
            dueTune("100 to 200 are alike", x, 0, 100, 100);
            dueTune("100 to 200 are alike", x, 1, 100, 100);
            dueTune("100 to 200 are alike", x, 2, 100, 100);
            x.valve(0, 200);
            dueTune("another mends 10", x, 1, 100, 0);
            x.valve(1, 100);
            dueTune("others mend both", x, 2, 0, 0);
        }

        @Sentence("Promise 19 | UNKNOWN;")
        static void tuneUnknown(BrassWays x) {
            for (int horn = 0; horn < 2; horn++) {
                x.horn(horn);
                for (int bad : beyond(0, 2)) {
                    due("tune(" + bad + ", 0)", x.tune(bad, 0), UNKNOWN);
                    due("tune(" + bad + ", 2)", x.tune(bad, 2), UNKNOWN);
                }
            }
        }

        @Sentence("Promise 19 | OUTSIDE;")
        static void tuneOutside(BrassWays x) {
            for (int horn = 0; horn < 2; horn++) {
                x.horn(horn);
                for (int bad : beyond(0, 1)) {
                    for (int valve = 0; valve < 3; valve++) {
                        due("tune(" + valve + ", " + bad + ")", x.tune(valve, bad), OUTSIDE);
                    }
                }
            }
        }

        @Sentence("Promise 19 | STATE: THE HORN has a slide.")
        static void tuneState(BrassWays x) {
            x.note(11);
            x.horn(1);
            for (int valve = 0; valve < 3; valve++) {
                due("slide tune(" + valve + ", 0)", x.tune(valve, 0), STATE);
                due("slide tune(" + valve + ", 1)", x.tune(valve, 1), STATE);
            }
            x.horn(0);
            due("tune(1, 0)", x.tune(1, 0), 100);
        }
    }

    // ---- 4 images

    private static final class Images {
        private static void change(BrassWays x) {
            x.horn(1 - x.count(0));
            lengths(x, 11, 12, 13, 14);
            x.rule(LIMIT, 15);
            rules(x, 6, 7, 8);
            x.clear();
            for (int place = 0; place < 12; place++) {
                x.note(36 - place);
            }
        }

        @Sentence("Promise 20 | All but IMAGES is kept in an IMAGE (0, 1)")
        static void allIsKept(BrassWays x) {
            String empty = state(x);
            due("image(0)", x.image(0), 1);
            due("count(2)", x.count(2), 1);
            change(x);
            String changed = state(x);
            due("image(1)", x.image(1), 1);
            due("count(2)", x.count(2), 3);
            for (int place = 0; place < 12; place++) {
                x.set(place, 3);
            }
            x.restore(0);
            due("count(0) of image 0", x.count(0), 0);
            due("count(1) of image 0", x.count(1), 0);
            same("image 0", state(x), empty);
            x.restore(1);
            due("count(0) of image 1", x.count(0), 1);
            due("count(1) of image 1", x.count(1), 12);
            same("image 1", state(x), changed);
        }

        @Sentence("Promise 20 | in place of what was kept there")
        static void inPlaceOfWhatWasKept(BrassWays x) {
            full(x, 7);
            x.image(0);
            x.image(1);
            x.clear();
            x.note(9);
            due("image(1) again", x.image(1), 1);
            due("count(2)", x.count(2), 3);
            x.restore(0);
            due("count(1) of image 0", x.count(1), 12);
            x.restore(1);
            due("count(1) of image 1", x.count(1), 1);
            due("count(30) of image 1", x.count(30), 9);
            due("count(31) of image 1", x.count(31), NONE);
        }

        @Sentence("Promise 20 | OUTSIDE.")
        static void imageOutside(BrassWays x) {
            for (int bad : beyond(0, 1)) {
                due("image(" + bad + ")", x.image(bad), OUTSIDE);
                due("count(2)", x.count(2), 0);
            }
        }

        @Sentence("Promise 21 | All but IMAGES is as it was when it was kept")
        static void imagesAreNotRestored(BrassWays x) {
            part(x, 12, 24);
            x.image(0);
            String kept = state(x);
            change(x);
            x.image(1);
            due("restore(0)", x.restore(0), 1);
            due("count(2), image 1 is kept still", x.count(2), 3);
            same("restored", state(x), kept);
            due("note(5), behind the restored part", x.note(5), 2);
            due("restore(1)", x.restore(1), 1);
            due("count(1) of image 1", x.count(1), 12);
            due("note(5) behind twelve", x.note(5), FULL);
        }

        @Sentence("Promise 21 | the IMAGE stays")
        static void imageStays(BrassWays x) {
            part(x, 12, 24);
            x.image(0);
            String kept = state(x);
            for (int turn = 0; turn < 3; turn++) {
                change(x);
                due("restore(0)", x.restore(0), 1);
                same("turn " + turn, state(x), kept);
                x.set(0, 30 + turn);
                x.valve(0, turn);
                x.rule(LOSS, turn);
                due("count(2)", x.count(2), 1);
            }
            due("restore(0) twice", x.restore(0), 1);
            due("restore(0) twice", x.restore(0), 1);
            same("at last", state(x), kept);
        }

        @Sentence("Promise 21 | OUTSIDE;")
        static void restoreOutside(BrassWays x) {
            for (int turn = 0; turn < 2; turn++) {
                for (int bad : beyond(0, 1)) {
                    due("restore(" + bad + ")", x.restore(bad), OUTSIDE);
                }
                x.image(0);
                x.image(1);
            }
        }

        @Sentence("Promise 21 | STATE: nothing was kept in it.")
        static void restoreState(BrassWays x) {
            due("restore(0)", x.restore(0), STATE);
            due("restore(1)", x.restore(1), STATE);
            x.image(1);
            due("restore(0), 1 kept", x.restore(0), STATE);
            due("restore(1), 1 kept", x.restore(1), 1);
            BrassWays other = new BrassWays();
            other.image(0);
            due("restore(1), 0 kept", other.restore(1), STATE);
            due("restore(0), 0 kept", other.restore(0), 1);
        }

        @Sentence("Promise 22 | THE HORN (0), NOTES of THE PART (1)")
        static void countHornAndNotes(BrassWays x) {
            for (int many = 0; many <= 12; many++) {
                due("count(1) of " + many, x.count(1), many);
                due("count(0)", x.count(0), many % 2);
                x.horn((many + 1) % 2);
                x.note(36);
            }
            due("count(1) of twelve, one refused", x.count(1), 12);
        }

        @Sentence("Promise 22 | which IMAGES are kept, a set: bits 0, 1 (2)")
        static void countImages(BrassWays x) {
            due("count(2)", x.count(2), 0);
            x.image(1);
            due("count(2)", x.count(2), 2);
            x.image(1);
            due("count(2)", x.count(2), 2);
            x.image(0);
            due("count(2)", x.count(2), 3);
            x.restore(1);
            due("count(2)", x.count(2), 3);
        }

        @Sentence("Promise 22 | RULES (10 to 14), LENGTHS of VALVES (20 to 22)")
        static void countRulesAndLengths(BrassWays x) {
            lengths(x, 0, 400, 7, 50);
            x.rule(LIMIT, 99);
            rules(x, 9, 0, 8);
            int[] want = {50, 99, 9, 0, 8};
            for (int horn = 0; horn < 2; horn++) {
                x.horn(horn);
                for (int what = 0; what < 5; what++) {
                    due("count(1" + what + ")", x.count(10 + what), want[what]);
                }
                due("count(20)", x.count(20), 0);
                due("count(21)", x.count(21), 400);
                due("count(22)", x.count(22), 7);
            }
        }

        @Sentence("Promise 22 | the NOTE at PLACE what less 30 (30 to 41; NONE: there is no such PLACE)")
        static void countNotes(BrassWays x) {
            for (int place = 0; place < 12; place++) {
                for (int what = 30 + place; what <= 41; what++) {
                    due("count(" + what + ") of " + place, x.count(what), NONE);
                }
                x.note(36 - place);
                due("count(" + (30 + place) + ")", x.count(30 + place), 36 - place);
            }
            due("count(30)", x.count(30), 36);
            x.clear();
            due("count(30) after clear", x.count(30), NONE);
            due("count(41) after clear", x.count(41), NONE);
        }

        @Sentence("Promise 22 | OUTSIDE.")
        static void countOutside(BrassWays x) {
            for (int turn = 0; turn < 2; turn++) {
                for (int what = -100; what <= 400; what++) {
                    boolean isTold = what >= 0 && what <= 2 || what >= 10 && what <= 14
                            || what >= 20 && what <= 22 || what >= 30 && what <= 41;
                    if (!isTold) {
                        due("count(" + what + ")", x.count(what), OUTSIDE);
                    }
                }
                for (int bad : new int[] {LOW, LOW + 1, LOW + 30, TOP, TOP - 30, 65536, -65536}) {
                    due("count(" + bad + ")", x.count(bad), OUTSIDE);
                }
                full(x, 36);
            }
        }
    }
}
