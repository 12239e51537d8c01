// One method for each promise of the document: ordinary inputs, the edges it names, wrong inputs.
public final class PromiseTest {
    private static final int LOW = Integer.MIN_VALUE, TOP = Integer.MAX_VALUE;
    private static int wrong = 0;

    private static void due(String call, long got, long want) {
        if (got != want) {
            wrong++;
            System.out.println(call + " answered " + got + ", due is " + want);
        }
    }

    public static void main(String[] args) {
        newObject();
        horn();
        valve();
        rule();
        lowers();
        off();
        ways();
        truest();
        range();
        note();
        set();
        clear();
        effort();
        least();
        plans();
        dumb();
        trill();
        awkward();
        tune();
        image();
        restore();
        count();
        System.out.println(wrong == 0 ? "all promises hold" : wrong + " answers are not as due");
        if (wrong != 0) {
            System.exit(1);
        }
    }

    private static BrassWays part(int... notes) {
        BrassWays x = new BrassWays();
        for (int note : notes) {
            x.note(note);
        }
        return x;
    }

    // All valves as long as told and no loss, so that ways are easily told by hand.
    private static BrassWays valves(int first, int second, int third) {
        BrassWays x = new BrassWays();
        x.valve(0, first);
        x.valve(1, second);
        x.valve(2, third);
        x.rule(0, 0);
        return x;
    }

    private static void dueCounts(String when, BrassWays x, int... want) {
        int[] asked = {0, 1, 2, 10, 11, 12, 13, 14, 20, 21, 22};
        for (int i = 0; i < asked.length; i++) {
            due(when + ": count(" + asked[i] + ")", x.count(asked[i]), want[i]);
        }
    }

    private static void newObject() {
        BrassWays x = new BrassWays();
        dueCounts("1 new", x, 0, 0, 0, 10, 35, 2, 1, 1, 200, 100, 300);
        for (int what = 30; what <= 41; what++) {
            due("1 count(" + what + ")", x.count(what), -6);
        }
        due("1 restore(0)", x.restore(0), -3);
        due("1 restore(1)", x.restore(1), -3);
        due("1 dumb()", x.dumb(), -6);
        BrassWays other = new BrassWays();
        x.horn(1);
        x.note(3);
        x.image(0);
        dueCounts("1 another object", other, 0, 0, 0, 10, 35, 2, 1, 1, 200, 100, 300);
    }

    private static void horn() {
        BrassWays x = part(12);
        due("2 horn(0)", x.horn(0), 0);
        due("2 horn(1)", x.horn(1), 0);
        due("2 horn(1)", x.horn(1), 1);
        for (int v : new int[] {-1, 2, LOW, TOP}) {
            due("2 horn(" + v + ")", x.horn(v), -2);
        }
        due("2 count(0)", x.count(0), 1);
        due("2 count(1)", x.count(1), 1);
        due("2 horn(0)", x.horn(0), 1);
        due("2 count(0)", x.count(0), 0);
    }

    private static void valve() {
        BrassWays x = new BrassWays();
        due("3 valve(0, 0)", x.valve(0, 0), 200);
        due("3 valve(1, 400)", x.valve(1, 400), 100);
        due("3 valve(2, 7)", x.valve(2, 7), 300);
        due("3 valve(2, 8)", x.valve(2, 8), 7);
        for (int valve : new int[] {-1, 3, LOW, TOP}) {
            due("3 valve(" + valve + ", 0)", x.valve(valve, 0), -1);
            due("3 valve(" + valve + ", 401)", x.valve(valve, 401), -1);
        }
        for (int v : new int[] {-1, 401, LOW, TOP}) {
            due("3 valve(1, " + v + ")", x.valve(1, v), -2);
        }
        due("3 count(20)", x.count(20), 0);
        due("3 count(21)", x.count(21), 400);
        due("3 count(22)", x.count(22), 8);
        x.horn(1);
        due("3 slide valve(0, 50)", x.valve(0, 50), 0);
        due("3 slide valve(3, 50)", x.valve(3, 50), -1);
        due("3 slide valve(2, 401)", x.valve(2, 401), -2);
        due("3 slide lowers(1)", x.lowers(1), 1100);
        x.horn(0);
        due("3 lowers(1)", x.lowers(1), 1050);
    }

    private static void rule() {
        int[] first = {10, 35, 2, 1, 1};
        int[] top = {50, 99, 9, 9, 9};
        BrassWays x = new BrassWays();
        for (int what = 0; what < 5; what++) {
            due("4 rule(" + what + ", 0)", x.rule(what, 0), first[what]);
            due("4 rule(" + what + ", top)", x.rule(what, top[what]), 0);
            for (int v : new int[] {-1, top[what] + 1, LOW, TOP}) {
                due("4 rule(" + what + ", " + v + ")", x.rule(what, v), -2);
            }
            due("4 rule(" + what + ", 1)", x.rule(what, 1), top[what]);
        }
        for (int what : new int[] {-1, 5, LOW, TOP}) {
            due("4 rule(" + what + ", 0)", x.rule(what, 0), -2);
        }
        dueCounts("4 rules", x, 0, 0, 0, 1, 1, 1, 1, 1, 200, 100, 300);
    }

    private static void lowers() {
        BrassWays x = new BrassWays();
        int[] drops = {0, 200, 100, 290, 300, 490, 390, 570};
        for (int setting = 0; setting < 8; setting++) {
            due("5 lowers(" + setting + ")", x.lowers(setting), 1000 + drops[setting]);
        }
        for (int setting : new int[] {-1, 8, LOW, TOP}) {
            due("5 lowers(" + setting + ")", x.lowers(setting), -2);
        }
        BrassWays none = valves(0, 0, 0);
        none.rule(0, 50);
        due("5 none lowers(5)", none.lowers(5), 950);
        due("5 none lowers(7)", none.lowers(7), 850);
        BrassWays all = valves(400, 400, 400);
        due("5 all lowers(7)", all.lowers(7), 2200);
        x.horn(1);
        for (int setting = 0; setting < 7; setting++) {
            due("5 slide lowers(" + setting + ")", x.lowers(setting), 1000 + 100 * setting);
        }
        for (int setting : new int[] {-1, 7, 8, LOW, TOP}) {
            due("5 slide lowers(" + setting + ")", x.lowers(setting), -2);
        }
    }

    private static void off() {
        BrassWays x = new BrassWays();
        int[] high = {0, 1200, 1902, 2400, 2786, 3102, 3369, 3600};
        for (int partial = 0; partial < 8; partial++) {
            due("6 off(" + 8 * partial + ", 0)", x.off(8 * partial, 0), 10000 + high[partial]);
        }
        due("6 off(0, 36)", x.off(0, 36), 6400);
        due("6 off(7, 0)", x.off(7, 0), 9430);
        due("6 off(63, 36)", x.off(63, 36), 9430);
        due("6 off(43, 28)", x.off(43, 28), 10012);
        for (int bad : new int[] {-1, 64, LOW, TOP}) {
            due("6 off(" + bad + ", 0)", x.off(bad, 0), -2);
        }
        for (int bad : new int[] {-1, 37, LOW, TOP}) {
            due("6 off(0, " + bad + ")", x.off(0, bad), -2);
        }
        x.horn(1);
        due("6 slide off(6, 0)", x.off(6, 0), 9400);
        due("6 slide off(62, 30)", x.off(62, 30), 10000);
        for (int way = 7; way < 64; way += 8) {
            due("6 slide off(" + way + ", 5)", x.off(way, 5), -2);
        }
    }

    private static void ways() {
        BrassWays x = new BrassWays();
        int[] of28 = {32, 43, 44, 55};
        due("7 ways(28, -1)", x.ways(28, -1), 4);
        for (int i = 0; i < 4; i++) {
            due("7 ways(28, " + i + ")", x.ways(28, i), of28[i]);
        }
        due("7 ways(28, 4)", x.ways(28, 4), -6);
        due("7 ways(28, TOP)", x.ways(28, TOP), -6);
        due("7 ways(1, -1)", x.ways(1, -1), 0);
        due("7 ways(1, 0)", x.ways(1, 0), -6);
        due("7 ways(0, 0)", x.ways(0, 0), 0);
        due("7 ways(36, 0)", x.ways(36, 0), 56);
        for (int bad : new int[] {-1, 37, LOW, TOP}) {
            due("7 ways(" + bad + ", -1)", x.ways(bad, -1), -2);
        }
        due("7 ways(28, -2)", x.ways(28, -2), -2);
        due("7 ways(28, LOW)", x.ways(28, LOW), -2);
        // 34 by the open seventh partial is 31 too low.
        x.rule(1, 31);
        due("7 limit 31 ways(34, 0)", x.ways(34, 0), 48);
        x.rule(1, 30);
        due("7 limit 30 ways(34, 0)", x.ways(34, 0), 57);
        // 12 by the second partial has all settings, if none lowers.
        BrassWays same = valves(0, 0, 0);
        due("7 same ways(12, -1)", same.ways(12, -1), 8);
        due("7 same ways(12, 7)", same.ways(12, 7), 15);
        same.horn(1);
        due("7 slide ways(12, -1)", same.ways(12, -1), 1);
        // Were the slide to go as far as 7, it would sound 5, and 29 by the eighth partial.
        due("7 slide ways(5, -1)", same.ways(5, -1), 0);
        due("7 slide ways(29, -1)", same.ways(29, -1), 2);
        due("7 slide ways(29, 0)", same.ways(29, 0), 42);
        due("7 slide ways(29, 1)", same.ways(29, 1), 53);
    }

    private static void truest() {
        BrassWays x = new BrassWays();
        due("8 truest(28)", x.truest(28), 55);
        due("8 truest(9)", x.truest(9), 12);
        due("8 truest(0)", x.truest(0), 0);
        due("8 truest(36)", x.truest(36), 56);
        due("8 truest(1)", x.truest(1), -6);
        for (int bad : new int[] {-1, 37, LOW, TOP}) {
            due("8 truest(" + bad + ")", x.truest(bad), -2);
        }
        due("8 equal truest(11)", valves(100, 100, 400).truest(11), 9);
        due("8 low, high truest(11)", valves(110, 90, 400).truest(11), 9);
        due("8 high, low truest(11)", valves(90, 110, 400).truest(11), 9);
        due("8 truer truest(11)", valves(90, 109, 400).truest(11), 10);
    }

    private static void range() {
        BrassWays x = new BrassWays();
        due("9 range(-1)", x.range(-1), 32);
        due("9 range(0)", x.range(0), 5);
        int all = 0;
        for (int what = 0; what <= 64; what++) {
            all += x.range(what);
        }
        due("9 all ranges", all, 37);
        BrassWays same = valves(0, 0, 0);
        due("9 same range(-1)", same.range(-1), 8);
        due("9 same range(0)", same.range(0), 29);
        due("9 same range(1)", same.range(1), 0);
        due("9 same range(8)", same.range(8), 8);
        due("9 same range(64)", same.range(64), 0);
        for (int bad : new int[] {-2, 65, LOW, TOP}) {
            due("9 range(" + bad + ")", x.range(bad), -2);
        }
    }

    private static void note() {
        BrassWays x = new BrassWays();
        for (int bad : new int[] {-1, 37, LOW, TOP}) {
            due("10 note(" + bad + ")", x.note(bad), -2);
        }
        due("10 count(1)", x.count(1), 0);
        for (int place = 0; place < 12; place++) {
            due("10 note(" + 3 * place + ")", x.note(3 * place), place);
            due("10 count(1)", x.count(1), place + 1);
        }
        due("10 note(36)", x.note(36), -4);
        due("10 note(37) when full", x.note(37), -2);
        due("10 count(1)", x.count(1), 12);
        for (int place = 0; place < 12; place++) {
            due("10 count(" + (30 + place) + ")", x.count(30 + place), 3 * place);
        }
        x.clear();
        due("10 note(36)", x.note(36), 0);
        due("10 note(0)", x.note(0), 1);
    }

    private static void set() {
        BrassWays x = part(5, 6);
        due("11 set(0, 36)", x.set(0, 36), 5);
        due("11 set(1, 0)", x.set(1, 0), 6);
        due("11 set(1, 0)", x.set(1, 0), 0);
        for (int bad : new int[] {-1, 2, 12, LOW, TOP}) {
            due("11 set(" + bad + ", 1)", x.set(bad, 1), -1);
            due("11 set(" + bad + ", 37)", x.set(bad, 37), -1);
        }
        for (int bad : new int[] {-1, 37, LOW, TOP}) {
            due("11 set(1, " + bad + ")", x.set(1, bad), -2);
        }
        due("11 count(30)", x.count(30), 36);
        due("11 count(31)", x.count(31), 0);
        due("11 count(1)", x.count(1), 2);
    }

    private static void clear() {
        BrassWays x = part(5, 6, 7);
        due("12 clear()", x.clear(), 3);
        due("12 clear()", x.clear(), 0);
        due("12 count(1)", x.count(1), 0);
        due("12 count(30)", x.count(30), -6);
        due("12 set(0, 5)", x.set(0, 5), -1);
        due("12 least(-1)", x.least(-1), 0);
    }

    private static void effort() {
        BrassWays x = new BrassWays();
        due("13 effort(0, 63)", x.effort(0, 63), 13);
        due("13 effort(63, 0)", x.effort(63, 0), 13);
        due("13 effort(9, 9)", x.effort(9, 9), 0);
        due("13 effort(3, 4)", x.effort(3, 4), 6);
        due("13 effort(16, 40)", x.effort(16, 40), 3);
        x.rule(2, 9);
        x.rule(3, 5);
        due("13 effort(1, 14)", x.effort(1, 14), 32);
        for (int bad : new int[] {-1, 64, LOW, TOP}) {
            due("13 effort(" + bad + ", 0)", x.effort(bad, 0), -2);
            due("13 effort(0, " + bad + ")", x.effort(0, bad), -2);
        }
        x.horn(1);
        due("13 slide effort(0, 62)", x.effort(0, 62), 89);
        due("13 slide effort(13, 3)", x.effort(13, 3), 23);
        due("13 slide effort(7, 0)", x.effort(7, 0), -2);
        due("13 slide effort(0, 63)", x.effort(0, 63), -2);
    }

    private static void least() {
        BrassWays x = part(12, 10, 9, 19);
        int[] want = {9, 8, 9, 12, 16, -6};
        for (int i = -1; i < 5; i++) {
            due("14 least(" + i + ")", x.least(i), want[i + 1]);
        }
        due("14 least(TOP)", x.least(TOP), -6);
        due("14 least(-2)", x.least(-2), -2);
        due("14 least(LOW)", x.least(LOW), -2);
        x.set(2, 1);
        for (int i = -1; i < 5; i++) {
            due("14 dumb least(" + i + ")", x.least(i), -6);
        }
        due("14 dumb least(-2)", x.least(-2), -2);
        BrassWays empty = new BrassWays();
        due("14 empty least(-1)", empty.least(-1), 0);
        due("14 empty least(0)", empty.least(0), -6);
        // Each fault is cut by itself: 9 times 2, by 10, twice.
        BrassWays fifths = part(19, 19);
        fifths.rule(4, 9);
        due("14 cut least(-1)", fifths.least(-1), 2);
        // The truest way of 28 costs a motion that the others do not.
        BrassWays lazy = part(31, 28);
        due("14 lazy least(-1)", lazy.least(-1), 2);
        due("14 lazy least(1)", lazy.least(1), 32);
        lazy.rule(4, 9);
        due("14 careful least(-1)", lazy.least(-1), 4);
        due("14 careful least(1)", lazy.least(1), 44);
        BrassWays equal = valves(100, 100, 400);
        equal.note(11);
        equal.note(11);
        due("14 equal least(-1)", equal.least(-1), 0);
        due("14 equal least(0)", equal.least(0), 9);
        due("14 equal least(1)", equal.least(1), 9);
    }

    private static void plans() {
        BrassWays x = part(12, 10, 9, 19);
        due("15 plans(0)", x.plans(0), 4);
        due("15 plans(1)", x.plans(1), 1);
        for (int what = 10; what < 14; what++) {
            due("15 plans(" + what + ")", x.plans(what), 1);
        }
        for (int what = 14; what < 22; what++) {
            due("15 plans(" + what + ")", x.plans(what), -6);
        }
        for (int bad : new int[] {-1, 2, 9, 22, LOW, TOP}) {
            due("15 plans(" + bad + ")", x.plans(bad), -2);
        }
        x.set(3, 1);
        due("15 dumb plans(0)", x.plans(0), 0);
        due("15 dumb plans(1)", x.plans(1), 0);
        due("15 dumb plans(10)", x.plans(10), -6);
        due("15 dumb plans(13)", x.plans(13), -6);
        BrassWays empty = new BrassWays();
        due("15 empty plans(0)", empty.plans(0), 1);
        due("15 empty plans(1)", empty.plans(1), 1);
        due("15 empty plans(10)", empty.plans(10), -6);
        BrassWays equal = valves(100, 100, 400);
        equal.note(11);
        equal.note(11);
        due("15 equal plans(0)", equal.plans(0), 4);
        due("15 equal plans(1)", equal.plans(1), 2);
        due("15 equal plans(11)", equal.plans(11), 2);
        equal.set(0, 12);
        due("15 open, equal plans(0)", equal.plans(0), 2);
        due("15 open, equal plans(1)", equal.plans(1), 2);
        due("15 open, equal plans(10)", equal.plans(10), 1);
        due("15 open, equal plans(11)", equal.plans(11), 2);
        BrassWays same = valves(0, 0, 0);
        for (int place = 0; place < 12; place++) {
            same.note(12);
        }
        due("15 same plans(0)", same.plans(0), 68719476736L);
        due("15 same plans(1)", same.plans(1), 8);
        due("15 same plans(21)", same.plans(21), 8);
        same.rule(2, 0);
        due("15 still plans(1)", same.plans(1), 68719476736L);
    }

    private static void dumb() {
        BrassWays x = new BrassWays();
        due("16 empty dumb()", x.dumb(), -6);
        x = part(12, 36);
        due("16 dumb()", x.dumb(), -6);
        x.note(1);
        x.note(2);
        due("16 dumb()", x.dumb(), 2);
        x.set(0, 5);
        due("16 dumb()", x.dumb(), 0);
        BrassWays flat = valves(0, 0, 0);
        flat.note(34);
        flat.rule(1, 31);
        due("16 limit 31 dumb()", flat.dumb(), -6);
        flat.rule(1, 30);
        due("16 limit 30 dumb()", flat.dumb(), 0);
    }

    private static void trill() {
        BrassWays x = new BrassWays();
        due("17 trill(28, 27)", x.trill(28, 27), 2);
        due("17 trill(27, 28)", x.trill(27, 28), 2);
        due("17 trill(10, 11)", x.trill(10, 11), 4);
        due("17 trill(12, 12)", x.trill(12, 12), 0);
        due("17 trill(0, 12)", x.trill(0, 12), 1);
        due("17 trill(0, 36)", x.trill(0, 36), 7);
        due("17 trill(1, 1)", x.trill(1, 1), -6);
        due("17 trill(1, 12)", x.trill(1, 12), -6);
        due("17 trill(12, 1)", x.trill(12, 1), -6);
        for (int bad : new int[] {-1, 37, LOW, TOP}) {
            due("17 trill(" + bad + ", 12)", x.trill(bad, 12), -2);
            due("17 trill(12, " + bad + ")", x.trill(12, bad), -2);
            due("17 trill(1, " + bad + ")", x.trill(1, bad), -2);
        }
        x.horn(1);
        due("17 slide trill(12, 6)", x.trill(12, 6), 12);
        due("17 slide trill(12, 13)", x.trill(12, 13), 13);
    }

    private static void awkward() {
        BrassWays x = new BrassWays();
        due("18 awkward(1, 3)", x.awkward(1, 3), 7);
        due("18 awkward(2, 4)", x.awkward(2, 4), 5);
        for (int d = 1; d <= 12; d++) {
            for (int limit = 0; limit < 9; limit++) {
                int many = 0;
                for (int note = 0; note <= 36 - d; note++) {
                    many += x.trill(note, note + d) > limit ? 1 : 0;
                }
                due("18 awkward(" + d + ", " + limit + ")", x.awkward(d, limit), many);
            }
        }
        due("18 awkward(12, 99)", x.awkward(12, 99), 0);
        for (int bad : new int[] {-1, 0, 13, LOW, TOP}) {
            due("18 awkward(" + bad + ", 0)", x.awkward(bad, 0), -2);
        }
        for (int bad : new int[] {-1, 100, LOW, TOP}) {
            due("18 awkward(1, " + bad + ")", x.awkward(1, bad), -2);
        }
        // If no setting lowers, the trills are of 0 and 12, 12 and 24, 19 and 31, 24 and 36.
        BrassWays same = valves(0, 0, 0);
        due("18 same awkward(12, 0)", same.awkward(12, 0), 4);
        due("18 same awkward(12, 1)", same.awkward(12, 1), 3);
        due("18 same awkward(12, 2)", same.awkward(12, 2), 2);
        due("18 same awkward(12, 3)", same.awkward(12, 3), 1);
        due("18 same awkward(12, 4)", same.awkward(12, 4), 0);
        due("18 same awkward(11, 0)", same.awkward(11, 0), 0);
    }

    private static void tune() {
        BrassWays x = part(11);
        due("19 tune(1, 0)", x.tune(1, 0), 100);
        due("19 tune(1, 1)", x.tune(1, 1), 0);
        due("19 count(21)", x.count(21), 100);
        // 1 is 100 from the open first partial and farther from all else: no length mends it.
        BrassWays low = part(1);
        due("19 low tune(0, 0)", low.tune(0, 0), 0);
        due("19 low tune(0, 1)", low.tune(0, 1), 100);
        low.note(1);
        due("19 two low tune(2, 1)", low.tune(2, 1), 200);
        // 400 is the last length tried: 8 by the second partial.
        BrassWays lone = valves(0, 0, 0);
        lone.note(8);
        due("19 lone tune(2, 0)", lone.tune(2, 0), 400);
        due("19 lone tune(2, 1)", lone.tune(2, 1), 0);
        // 31 by the seventh partial is 269 too high.
        lone.set(0, 31);
        due("19 lone tune(2, 0)", lone.tune(2, 0), 270);
        due("19 lone tune(2, 1)", lone.tune(2, 1), 1);
        lone.valve(1, 4);
        due("19 both tune(2, 0)", lone.tune(2, 0), 265);
        due("19 both tune(2, 1)", lone.tune(2, 1), 0);
        lone.rule(0, 5);
        due("19 loss tune(2, 0)", lone.tune(2, 0), 270);
        due("19 loss tune(2, 1)", lone.tune(2, 1), 0);
        BrassWays empty = new BrassWays();
        due("19 empty tune(2, 0)", empty.tune(2, 0), 0);
        due("19 empty tune(2, 1)", empty.tune(2, 1), 0);
        for (int kind = 0; kind < 2; kind++) {
            x.horn(kind);
            for (int bad : new int[] {-1, 3, LOW, TOP}) {
                due("19 tune(" + bad + ", 0)", x.tune(bad, 0), -1);
                due("19 tune(" + bad + ", 2)", x.tune(bad, 2), -1);
            }
            for (int bad : new int[] {-1, 2, LOW, TOP}) {
                due("19 tune(0, " + bad + ")", x.tune(0, bad), -2);
            }
        }
        due("19 slide tune(0, 0)", x.tune(0, 0), -3);
        due("19 slide tune(2, 1)", x.tune(2, 1), -3);
    }

    private static void image() {
        BrassWays x = part(12);
        for (int bad : new int[] {-1, 2, LOW, TOP}) {
            due("20 image(" + bad + ")", x.image(bad), -2);
        }
        due("20 count(2)", x.count(2), 0);
        due("20 image(1)", x.image(1), 1);
        due("20 count(2)", x.count(2), 2);
        due("20 image(0)", x.image(0), 1);
        due("20 count(2)", x.count(2), 3);
        x.set(0, 24);
        due("20 image(1)", x.image(1), 1);
        x.set(0, 36);
        x.restore(1);
        due("20 newer count(30)", x.count(30), 24);
        x.restore(0);
        due("20 older count(30)", x.count(30), 12);
    }

    private static void restore() {
        BrassWays x = part(12, 13);
        for (int bad : new int[] {-1, 2, LOW, TOP}) {
            due("21 restore(" + bad + ")", x.restore(bad), -2);
        }
        due("21 restore(0)", x.restore(0), -3);
        x.image(0);
        due("21 restore(1)", x.restore(1), -3);
        for (int turn = 0; turn < 2; turn++) {
            x.horn(1);
            x.clear();
            x.note(3);
            for (int what = 0; what < 5; what++) {
                x.rule(what, 9);
            }
            for (int valve = 0; valve < 3; valve++) {
                x.valve(valve, 50 + turn);
            }
            x.image(1);
            due("21 restore(0)", x.restore(0), 1);
            dueCounts("21 old", x, 0, 2, 3, 10, 35, 2, 1, 1, 200, 100, 300);
            due("21 count(30)", x.count(30), 12);
            due("21 count(31)", x.count(31), 13);
        }
        due("21 restore(1)", x.restore(1), 1);
        dueCounts("21 new", x, 1, 1, 3, 9, 9, 9, 9, 9, 51, 51, 51);
        due("21 count(30)", x.count(30), 3);
        due("21 count(31)", x.count(31), -6);
    }

    private static void count() {
        BrassWays x = part(30, 31);
        dueCounts("22 new", x, 0, 2, 0, 10, 35, 2, 1, 1, 200, 100, 300);
        due("22 count(30)", x.count(30), 30);
        due("22 count(31)", x.count(31), 31);
        due("22 count(32)", x.count(32), -6);
        due("22 count(41)", x.count(41), -6);
        for (int bad : new int[] {LOW, -1, 3, 9, 15, 19, 23, 29, 42, TOP}) {
            due("22 count(" + bad + ")", x.count(bad), -2);
        }
        x.image(0);
        due("22 count(2)", x.count(2), 1);
        x.horn(1);
        due("22 count(0)", x.count(0), 1);
    }
}
