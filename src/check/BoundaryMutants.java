import java.io.StringWriter;
import java.lang.reflect.Method;
import java.net.URL;
import java.net.URLClassLoader;
import java.nio.file.Files;
import java.nio.file.Path;
import java.util.ArrayList;
import java.util.List;
import java.util.Map;
import java.util.TreeSet;
import javax.tools.JavaCompiler;
import javax.tools.StandardJavaFileManager;
import javax.tools.ToolProvider;

// Breaks each sentence that BoundaryTest quotes, by one small change of the program's text, and
// looks whether that sentence's own test fails. Run by hand from the project's directory:
//     java src/check/BoundaryMutants.java
// It is no part of .ci/run, since a change that tidies the program may move the words below.
public final class BoundaryMutants {
    private static final Path PROGRAM = Path.of("src/main/java/BrassWays.java");
    private static final Path TEST = Path.of("src/test/java/BoundaryTest.java");
    private static final Path DOCUMENT = Path.of("../shared/DOC.md");

    // The test; words behind which to look; the words that are changed, the first time they
    // stand there; what they become.
    private static final String[][] MUTANTS = {
        {"lastCallStillAnswers", "int set(", "int was = now.notes[place];",
            "planner.size++; int was = planner.size > 497 ? 0 : now.notes[place];"},
        {"constants", "class BrassWays", "NO = -5", "NO = -7"},
        {"firstThatFits", "int valve(", "if (!isValve(valve)) {",
            "if (v < 0 || v > LONGEST) { return OUTSIDE; } if (!isValve(valve)) {"},
        {"firstThatFits", "int note(", "if (!isNote(note)) {",
            "if (now.size >= PLACES) { return FULL; } if (!isNote(note)) {"},
        {"firstThatFits", "int set(", "if (!isPlace(place)) {",
            "if (!isNote(note)) { return OUTSIDE; } if (!isPlace(place)) {"},
        {"firstThatFits", "int tune(", "if (!isValve(valve)) {",
            "if (now.kind == SLIDE) { return STATE; } if (!isValve(valve)) {"},
        {"firstThatFits", "int tune(", "if (what < 0 || what > 1) {",
            "if (now.kind == SLIDE) { return STATE; } if (what < 0 || what > 1) {"},
        {"noneOnlyWhereNoRefusalFits", "int ways(", "if (!isNote(note) || i < -1) {",
            "if (isNote(note) && i != -1 && now.gatherWays(note, waysOfOne, 0) == 0) { return NONE; }"
            + " if (!isNote(note) || i < -1) {"},
        {"noneOnlyWhereNoRefusalFits", "int least(", "if (i < -1) {",
            "planner.workOut(now); if (!planner.hasPlan()) { return NONE; } if (i < -1) {"},
        {"noneOnlyWhereNoRefusalFits", "long plans(", "if (what < 0",
            "planner.workOut(now); if (what > 1 && !planner.hasPlan()) { return NONE; } if (what < 0"},
        {"noneOnlyWhereNoRefusalFits", "int trill(", "return isNote(one)",
            "if (isNote(one) && leastMotion(one, one) == NONE) { return NONE; } return isNote(one)"},
        {"refusedChangesNothing", "int note(", "return FULL;", "now.notes[PLACES - 1] = note; return FULL;"},
        {"refusedChangesNothing", "int restore(", "return STATE;", "now.kind = 0; return STATE;"},
        {"refusedChangesNothing", "int restore(", "return OUTSIDE;", "imagesKept = 0; return OUTSIDE;"},
        {"refusedChangesNothing", "int valve(", "return OUTSIDE;", "now.lengths[valve] = 0; return OUTSIDE;"},
        {"refusedChangesNothing", "int set(", "return OUTSIDE;", "now.notes[place] = 0; return OUTSIDE;"},
        {"toldAsThingsAre", "int least(", "planner.workOut(now);",
            "if (planner.size != now.size) { planner.workOut(now); }"},
        {"quotientsAreCut", "int fault(", "rules[CARE] * Math.abs(offBy(way, note)) / 10",
            "(rules[CARE] * Math.abs(offBy(way, note)) + 5) / 10"},
        {"sizeHasNoSign", "int fault(", "Math.abs(offBy(way, note))", "Math.max(0, offBy(way, note))"},
        {"sizeHasNoSign", "int nearestMiss(", "Math.abs(HIGH[partial] - sought)",
            "(HIGH[partial] < sought ? FAR : HIGH[partial] - sought)"},

        {"hornAtFirst", "class Setup", "int kind = 0;", "int kind = 1;"},
        {"lengthsAtFirst", "class Setup", "{200, 100, 300}", "{200, 100, 301}"},
        {"ruleLoss", "class Setup", "{10, 35, 2, 1, 1}", "{11, 35, 2, 1, 1}"},
        {"ruleLoss", "RULE_TOP", "{50, 99, 9, 9, 9}", "{51, 99, 9, 9, 9}"},
        {"ruleLimit", "class Setup", "{10, 35, 2, 1, 1}", "{10, 36, 2, 1, 1}"},
        {"ruleLimit", "RULE_TOP", "{50, 99, 9, 9, 9}", "{50, 100, 9, 9, 9}"},
        {"ruleMove", "class Setup", "{10, 35, 2, 1, 1}", "{10, 35, 1, 1, 1}"},
        {"ruleMove", "RULE_TOP", "{50, 99, 9, 9, 9}", "{50, 99, 10, 9, 9}"},
        {"ruleLip", "class Setup", "{10, 35, 2, 1, 1}", "{10, 35, 2, 2, 1}"},
        {"ruleLip", "RULE_TOP", "{50, 99, 9, 9, 9}", "{50, 99, 9, 8, 9}"},
        {"ruleCare", "class Setup", "{10, 35, 2, 1, 1}", "{10, 35, 2, 1, 0}"},
        {"ruleCare", "RULE_TOP", "{50, 99, 9, 9, 9}", "{50, 99, 9, 9, 10}"},
        {"newObject", "class BrassWays", "private int imagesKept = 0;", "private int imagesKept = 1;"},
        {"newObject", "class Setup", "int size = 0;", "int size = 1;"},
        {"newObject", "class BrassWays", "private int imagesKept", "private static int imagesKept"},
        {"hornWas", "int horn(", "return was;", "return v;"},
        {"hornOutside", "int horn(", "v < 0 || v > SLIDE", "v < 0"},
        {"hornOutside", "int horn(", "v < 0 || v > SLIDE", "v > SLIDE"},
        {"valveUnknown", "boolean isValve(", "valve < VALVES", "valve < VALVES - 1"},
        {"valveUnknown", "int valve(", "if (!isValve(valve)) {", "if (!isValve(valve) || now.kind == SLIDE) {"},
        {"valveUnknown", "int dropOf(", "kind == SLIDE ? 100 * setting", "kind == SLIDE ? lengths[1] * setting"},
        {"valveOutside", "int valve(", "v < 0 || v > LONGEST", "v > LONGEST"},
        {"valveOutside", "int valve(", "v < 0 || v > LONGEST", "v < 0 || v > LONGEST + 1"},
        {"valveOutside", "int valve(", "v < 0 || v > LONGEST", "(v < 0 || v > LONGEST) && now.kind != SLIDE"},
        {"ruleOutside", "int rule(", "what < 0 || what >= RULES || v < 0", "what < 0 || what >= RULES"},
        {"ruleOutside", "int rule(", "v > RULE_TOP[what]", "v > RULE_TOP[0]"},
        {"ruleOutside", "int rule(", "if (what < 0", "if (what == RULES) { return UNKNOWN; } if (what < 0"},

        {"partials", "HIGH =", "2786", "2787"},
        {"partials", "HIGH =", "3600}", "3599}"},
        {"settingsWithValves", "int valveDrop(", "(setting >> v & 1) == 1", "(setting >> 2 - v & 1) == 1"},
        {"settingsWithSlide", "class BrassWays", "SLIDE_SETTINGS = 7", "SLIDE_SETTINGS = 8"},
        {"settingsWithSlide", "class BrassWays", "SLIDE_SETTINGS = 7", "SLIDE_SETTINGS = 6"},
        {"settingsWithSlide", "int gatherWays(", "hasWay(way) && ", ""},
        {"lossOfEachTwo", "int valveDrop(", "loss * pressed", "(pressed > 0 ? loss : 0)"},
        {"lossOfEachTwo", "int valveDrop(", "loss * pressed", "loss * (pressed + 1)"},
        {"lossOfEachTwo", "int valveDrop(", "return drop;", "return Math.max(0, drop);"},
        {"slideLowers", "int dropOf(", "100 * setting", "100 * setting - rules[LOSS]"},
        {"wayNumbers", "boolean hasWay(", "way < WAYS", "way <= WAYS"},
        {"wayNumbers", "boolean hasWay(", "way < WAYS", "way < WAYS - 1"},
        {"wayNumbers", "boolean hasWay(", "way >= 0", "way > 0"},
        {"notes", "class BrassWays", "NOTES = 37", "NOTES = 36"},
        {"notes", "class BrassWays", "NOTES = 37", "NOTES = 38"},
        {"notes", "boolean isNote(", "note >= 0", "note > 0"},
        {"offAtItsEnds", "int offBy(", "- 100 * note", "- 99 * note"},
        {"offAtItsEnds", "int off(", "now.offBy(way, note) + 10000",
            "Math.max(-4000, now.offBy(way, note)) + 10000"},
        {"soundsWithinLimit", "int gatherWays(", "<= rules[LIMIT]", "< rules[LIMIT]"},
        {"soundsWithinLimit", "int gatherWays(", "<= rules[LIMIT]", "<= rules[LIMIT] + 1"},
        {"soundsWithinLimit", "int gatherWays(", "Math.abs(offBy(way, note))", "offBy(way, note)"},
        {"soundsWithinLimit", "int gatherWays(", "Math.abs(offBy(way, note))", "-offBy(way, note)"},
        {"waysRise", "int gatherWays(", "int way = 0; way < WAYS; way++", "int way = WAYS - 1; way >= 0; way--"},
        {"waysRise", "class BrassWays", "MOST_WAYS = SETTINGS", "MOST_WAYS = SETTINGS - 1"},

        {"lowersBelowNothing", "int lowers(", "now.dropOf(setting) + 1000", "Math.abs(now.dropOf(setting)) + 1000"},
        {"lowersOutside", "boolean hasSetting(", "setting >= 0", "setting >= -1"},
        {"lowersOutside", "boolean hasSetting(", "setting < (", "setting <= ("},
        {"offOutside", "int off(", "now.hasWay(way) && ", "way >= 0 && way < WAYS && "},
        {"offOutside", "int off(", "isNote(note)", "note >= 0"},
        {"offOutside", "int off(", "isNote(note)", "note < NOTES"},
        {"waysCounted", "int ways(", "return found;", "return found - 1;"},
        {"waysCounted", "int ways(", "waysOfOne[i]", "waysOfOne[found - 1 - i]"},
        {"waysNone", "int ways(", ": NONE", ": OUTSIDE"},
        {"waysNone", "int ways(", "i < found ?", "i <= found && i < MOST_WAYS ?"},
        {"waysOutside", "int ways(", "i < -1", "i < -2"},
        {"waysOutside", "int ways(", "!isNote(note) || ", "note < 0 || "},
        {"waysOutside", "int ways(", "!isNote(note) || ", "note > 36 || "},
        {"truestOfSeveral", "int truest(", "size < leastSize", "size <= leastSize"},
        {"truestOfSeveral", "int truest(", "Math.abs(now.offBy(waysOfOne[i], note))",
            "now.offBy(waysOfOne[i], note)"},
        {"truestNone", "int truest(", "int best = NONE;", "int best = NO;"},
        {"truestOutside", "int truest(", "!isNote(note)", "note < 0"},
        {"truestOutside", "int truest(", "!isNote(note)", "note > 36"},
        {"rangeEnds", "int range(", "found > 0", "found > 1"},
        {"rangeEnds", "int range(", "what > WAYS", "what >= WAYS"},
        {"rangeEnds", "int range(", "int note = 0;", "int note = 1;"},
        {"rangeEnds", "int range(", "note < NOTES", "note < NOTES - 1"},
        {"rangeOutside", "int range(", "what < -1 || ", ""},
        {"rangeOutside", "int range(", "what > WAYS", "what > WAYS + 1"},

        {"placesFromNothingOn", "class BrassWays", "PLACES = 12", "PLACES = 11"},
        {"placesFromNothingOn", "int note(", "return place;", "return place + 1;"},
        {"noteBehindAll", "int note(", "now.notes[place] = note;",
            "System.arraycopy(now.notes, 0, now.notes, 1, PLACES - 1); now.notes[0] = note;"},
        {"noteOutside", "int note(", "!isNote(note)", "note < 0"},
        {"noteOutside", "int note(", "!isNote(note)", "note > 36"},
        {"noteFull", "int note(", "now.size >= PLACES", "now.size >= PLACES - 1"},
        {"noteFull", "int note(", "return FULL;", "return NO;"},
        {"setWas", "int set(", "return was;", "return note;"},
        {"setWas", "int set(", "now.notes[place] = note;", ""},
        {"setUnknown", "boolean isPlace(", "place < now.size", "place < PLACES"},
        {"setUnknown", "boolean isPlace(", "place < now.size", "place <= now.size && place < PLACES"},
        {"setUnknown", "int set(", "return UNKNOWN;", "return NONE;"},
        {"setOutside", "int set(", "!isNote(note)", "note < 0"},
        {"setOutside", "int set(", "!isNote(note)", "note > 36"},
        {"clearEmptyAndFull", "int clear(", "now.size = 0;", "now.size = Math.max(0, had - 1);"},
        {"clearEmptyAndFull", "int clear(", "return had;", "return had == 0 ? NONE : had;"},
        {"dumbFirst", "int dumb(", "int place = 0; place < now.size; place++",
            "int place = now.size - 1; place >= 0; place--"},
        {"dumbFirst", "int dumb(", "place < now.size;", "place < now.size - 1;"},
        {"dumbNone", "int dumb(", "place < now.size;", "place < Math.max(1, now.size);"},
        {"dumbNone", "int dumb(", "return NONE;", "return now.size;"},

        {"effortAtItsEnds", "int motion(", "Integer.bitCount(oneSetting ^ otherSetting)",
            "Math.abs(Integer.bitCount(oneSetting) - Integer.bitCount(otherSetting))"},
        {"effortAtItsEnds", "int motion(", "Math.abs(one / SETTINGS - other / SETTINGS)",
            "(one / SETTINGS == other / SETTINGS ? 0 : 1)"},
        {"effortWithSlide", "int motion(", "kind == SLIDE", "kind > SLIDE"},
        {"effortWithSlide", "int motion(", "Math.abs(oneSetting - otherSetting)", "oneSetting - otherSetting"},
        {"effortOutside", "int effort(", "now.hasWay(one) && ", ""},
        {"effortOutside", "int effort(", " && now.hasWay(other)", ""},
        {"effortOutside", "int effort(", "now.hasWay(one) && now.hasWay(other)",
            "one >= 0 && one < WAYS && other >= 0 && other < WAYS"},
        {"faultIsCutByItself", "int fault(", "rules[CARE] * Math.abs(offBy(way, note)) / 10",
            "rules[CARE] * (Math.abs(offBy(way, note)) / 10)"},
        {"faultIsCutByItself", "int leastCost(", "return cheapest;", "return cheapest + size / 10;"},
        {"planNeedsEachPlace", "long countAll(", "int place = 0;", "int place = 1;"},
        {"planNeedsEachPlace", "long countAll(", "place < size", "place < size - 1"},
        {"planWithoutNotes", "int leastCost(", "if (size == 0) {", "if (size < 0) {"},
        {"planWithoutNotes", "long countAll(", "long all = 1;", "long all = size == 0 ? 0 : 1;"},
        {"planWithoutNotes", "long countLeast(", "size == 0 || !hasPlan()", "!hasPlan()"},
        {"costOfFollowingPlaces", "void weigh(", "int cheapest = 0;",
            "int cheapest = setup.motion(wayIn[cell], wayIn[0]);"},
        {"costOfFollowingPlaces", "FAR =", "1000000", "600"},
        {"leastOfAlike", "int lowestMark(", "marked & -marked", "Integer.highestOneBit(marked)"},
        {"leastOfAlike", "int leastWayAt(", "marked = lowestMark(nextMarks(setup, p, marked))",
            "marked = Integer.highestOneBit(nextMarks(setup, p, marked))"},
        {"leastOfAlike", "int leastWayAt(", "int marked = lowestMark(firstMarks());", "int marked = firstMarks();"},
        {"leastAtItsEnds", "int least(", "planner.leastWayAt(now, i)", "planner.leastWayAt(now, i / 11 * 10)"},
        {"leastNone", "int least(", "return NONE;", "return OUTSIDE;"},
        {"leastNone", "int least(", "if (!planner.hasPlan()) {", "if (!planner.hasPlan() && i >= 0) {"},
        {"leastOutside", "int least(", "i < -1", "i < -2"},
        {"plansAll", "long countAll(", "all *= found[place];", "all = Math.min(2147483647, all * found[place]);"},
        {"plansOfLeastCost", "long countLeast(", "return many;", "return Math.min(many, 2147483647);"},
        {"plansOfLeastCost", "long countLeast(", "return countAll();", "return size == 0 ? 1 : NONE;"},
        {"plansOfLeastCost", "void weigh(", "many += ties[next];", "many++;"},
        {"plansWaysAtPlace", "int countWaysAt(", "return Integer.bitCount(marked);", "return found[place];"},
        {"plansWaysOfLeastCostAlone", "int countWaysAt(", "p < place", "p < place && p < 10"},
        {"plansWaysOfLeastCostAlone", "int nextMarks(", " && cost == behind[from]", ""},
        {"plansWaysAtPlace", "int countWaysAt(", "int marked = firstMarks();", "int marked = lowestMark(firstMarks());"},
        {"plansNone", "long plans(", ": NONE", ": 0"},
        {"plansNone", "long plans(", "isPlace(place) && ", ""},
        {"plansNone", "long plans(", " && planner.hasPlan()", ""},
        {"plansOutside", "long plans(", "what < 10)", "what < 9)"},
        {"plansOutside", "long plans(", "what > 1 &&", "what > 2 &&"},
        {"plansOutside", "long plans(", "what >= 10 + PLACES", "what > 10 + PLACES"},
        {"plansOutside", "long plans(", "what < 0 || ", ""},

        {"trillIsLeast", "int leastMotion(", "best = Math.min(best, ", "best = Math.max(best % FAR, "},
        {"trillIsLeast", "int leastMotion(", "int j = 0; j < foundOther; j++", "int j = 0; j < 1; j++"},
        {"trillIsLeast", "int leastMotion(", "int i = 0; i < foundOne; i++", "int i = 0; i < 1; i++"},
        {"trillOfOne", "int leastMotion(", "int best = FAR;", "int best = one == other ? NONE : FAR;"},
        {"trillNone", "int leastMotion(", "foundOne == 0 || foundOther == 0", "foundOne == 0"},
        {"trillNone", "int leastMotion(", "foundOne == 0 || foundOther == 0", "foundOther == 0"},
        {"trillOutside", "int trill(", "isNote(one) && ", ""},
        {"trillOutside", "int trill(", " && isNote(other)", ""},
        {"awkwardFromEndToEnd", "int awkward(", "int note = 0;", "int note = 1;"},
        {"awkwardFromEndToEnd", "int awkward(", "note + d < NOTES", "note + d < NOTES - 1"},
        {"awkwardFromEndToEnd", "int awkward(", "> limit", ">= limit"},
        {"awkwardFromEndToEnd", "int awkward(", "> limit)",
            "> limit || leastMotion(note, note + d) == NONE)"},
        {"awkwardSpans", "int awkward(", "d > 12", "d > 11"},
        {"awkwardSpans", "int awkward(", "d < 1 ", "d < 2 "},
        {"awkwardSpans", "int awkward(", "limit > 99", "limit > 98"},
        {"awkwardSpans", "int awkward(", "limit < 0", "limit < 1"},
        {"awkwardOutside", "int awkward(", "d < 1 ", "d < 0 "},
        {"awkwardOutside", "int awkward(", "d > 12", "d > 13"},
        {"awkwardOutside", "int awkward(", "limit < 0", "limit < -1"},
        {"awkwardOutside", "int awkward(", "limit > 99", "limit > 100"},

        {"lengthsByFives", "class BrassWays", "LENGTH_STEP = 5", "LENGTH_STEP = 1"},
        {"lengthsByFives", "class BrassWays", "LENGTH_STEP = 5", "LENGTH_STEP = 10"},
        {"lengthsByFives", "int tune(", "length <= LONGEST", "length < LONGEST"},
        {"lengthsByFives", "int tune(", "length <= LONGEST", "length <= LONGEST + 5"},
        {"lengthsByFives", "int tune(", "int length = LENGTH_STEP", "int length = -LENGTH_STEP"},
        {"lengthsByFives", "int tune(", "int best = 0;", "int best = now.lengths[valve];"},
        {"allElseAsItIs", "int missOfPart(", "v == valve ? length : now.lengths[v]", "v == valve ? length : 0"},
        {"allElseAsItIs", "int missOfPart(", "now.rules[LOSS]", "0"},
        {"allElseAsItIs", "int tune(", "return what == 0", "now.lengths[valve] = best; return what == 0"},
        {"wholePartAdded", "int missOfPart(", "nearestMiss(now.notes[place])",
            "Math.min(99, nearestMiss(now.notes[place]))"},
        {"wholePartAdded", "int missOfPart(", "place < now.size", "place < now.size - 1"},
        {"wholePartAdded", "int missOfPart(", "int place = 0;", "int place = 1;"},
        {"wholePartAdded", "int nearestMiss(", "return nearest;",
            "return nearest > now.rules[LIMIT] ? 0 : nearest;"},
        {"ofSeveralTheLeast", "int tune(", "miss < leastMiss", "miss <= leastMiss"},
        {"tuneUnknown", "int tune(", "if (!isValve(valve)) {", "if (valve < 0) {"},
        {"tuneUnknown", "int tune(", "return UNKNOWN;", "return OUTSIDE;"},
        {"tuneOutside", "int tune(", "what < 0 || ", ""},
        {"tuneOutside", "int tune(", "what > 1", "what > 2"},
        {"tuneState", "int tune(", "now.kind == SLIDE", "now.kind > SLIDE"},
        {"tuneState", "int tune(", "return STATE;", "return NONE;"},

        {"allIsKept", "void takeFrom(", "kind = from.kind;", ""},
        {"allIsKept", "void takeFrom(", "size = from.size;", ""},
        {"allIsKept", "void takeFrom(", "System.arraycopy(from.lengths, 0, lengths, 0, VALVES);", ""},
        {"allIsKept", "void takeFrom(", "System.arraycopy(from.rules, 0, rules, 0, RULES);",
            "System.arraycopy(from.rules, 0, rules, 0, RULES - 1);"},
        {"allIsKept", "void takeFrom(", "notes, 0, PLACES)", "notes, 0, PLACES - 1)"},
        {"inPlaceOfWhatWasKept", "int image(", "images[k].takeFrom(now);",
            "if ((imagesKept >> k & 1) == 0) { images[k].takeFrom(now); }"},
        {"inPlaceOfWhatWasKept", "int image(", "images[k].takeFrom(now);", "images[0].takeFrom(now);"},
        {"imageOutside", "int image(", "k < 0 || ", ""},
        {"imageOutside", "int image(", "k >= IMAGES", "k > IMAGES"},
        {"imagesAreNotRestored", "int restore(", "return 1;", "imagesKept = 1 << k; return 1;"},
        {"imageStays", "int restore(", "return 1;", "imagesKept &= ~(1 << k); return 1;"},
        {"imageStays", "int restore(", "now.takeFrom(images[k]);",
            "Setup kept = images[k]; images[k] = now; kept.takeFrom(kept); now.takeFrom(kept);"},
        {"restoreOutside", "int restore(", "k < 0 || ", ""},
        {"restoreOutside", "int restore(", "return OUTSIDE;", "return STATE;"},
        {"restoreState", "int restore(", "(imagesKept >> k & 1) == 0", "imagesKept == 0"},
        {"restoreState", "int restore(", "return STATE;", "return NONE;"},
        {"countHornAndNotes", "int count(", "return now.kind;", "return now.size;"},
        {"countHornAndNotes", "int count(", "return now.size;", "return Math.min(11, now.size);"},
        {"countImages", "int image(", "imagesKept |= 1 << k;", "imagesKept += 1 << k;"},
        {"countImages", "int image(", "imagesKept |= 1 << k;", "imagesKept |= 2 >> k;"},
        {"countRulesAndLengths", "int count(", "what < 10 + RULES", "what < 10 + RULES - 1"},
        {"countRulesAndLengths", "int count(", "what < 20 + VALVES", "what < 20 + VALVES - 1"},
        {"countRulesAndLengths", "int count(", "what >= 20", "what > 20"},
        {"countNotes", "int count(", "isPlace(what - 30) ? now.notes[what - 30] : NONE", "now.notes[what - 30]"},
        {"countNotes", "int count(", "what < 30 + PLACES", "what < 30 + now.size"},
        {"countNotes", "int count(", "what >= 30", "what > 30"},
        {"countOutside", "int count(", "what < 30 + PLACES", "what < 31 + PLACES"},
        {"countOutside", "int count(", "what >= 30", "what >= 29"},
        {"countOutside", "int count(", "if (what == 2) {", "if (what == 2 || what == 3) {"},
        {"countOutside", "int count(", "return OUTSIDE;", "return NONE;"},
    };

    private static int faults = 0;

    public static void main(String[] args) throws Exception {
        String program = Files.readString(PROGRAM);
        String test = Files.readString(TEST);
        Path room = Files.createTempDirectory("mutants");
        Map<String, String> sentences = sentences(room.resolve("whole"), program, test);
        quotes(sentences);
        TreeSet<String> free = new TreeSet<>(sentences.keySet());
        for (int i = 0; i < MUTANTS.length; i++) {
            free.remove(MUTANTS[i][0]);
            seen(room.resolve("m" + i), program, test, MUTANTS[i]);
        }
        for (String name : free) {
            fault("no change breaks " + name);
        }
        System.out.println(MUTANTS.length + " changes, " + sentences.size() + " sentences, " + faults + " faults");
        if (faults > 0) {
            System.exit(1);
        }
    }

    private static void fault(String words) {
        faults++;
        System.out.println(words);
    }

    @SuppressWarnings("unchecked")
    private static Map<String, String> sentences(Path room, String program, String test) throws Exception {
        Map<String, String> all = (Map<String, String>) asked(room, program, test, "sentences");
        if (all == null) {
            throw new IllegalStateException("the program does not compile");
        }
        return all;
    }

    /** Each sentence has to stand in the document, word by word. */
    private static void quotes(Map<String, String> sentences) throws Exception {
        String document = Files.readString(DOCUMENT).replaceAll("\\s+", " ");
        for (String sentence : sentences.values()) {
            int bar = sentence.indexOf(" | ");
            for (String words : sentence.substring(bar + 3).split(" \\.\\.\\. ")) {
                if (!document.contains(words)) {
                    fault("not in the document: " + words);
                }
            }
        }
    }

    @SuppressWarnings("unchecked")
    private static void seen(Path room, String program, String test, String[] mutant) throws Exception {
        int behind = program.indexOf(mutant[1]);
        int at = behind < 0 ? -1 : program.indexOf(mutant[2], behind);
        String change = mutant[0] + ": " + mutant[2] + " -> " + mutant[3];
        if (at < 0) {
            fault("no such words, " + change);
            return;
        }
        String changed = program.substring(0, at) + mutant[3] + program.substring(at + mutant[2].length());
        List<String> broken = (List<String>) asked(room, changed, test, "broken");
        if (broken == null) {
            fault("does not compile, " + change);
        } else if (!broken.contains(mutant[0])) {
            fault("unseen (others that saw it: " + broken + "), " + change);
        }
    }

    private static Object asked(Path room, String program, String test, String what) throws Exception {
        Files.createDirectories(room);
        Path programFile = Files.writeString(room.resolve("BrassWays.java"), program);
        Path testFile = Files.writeString(room.resolve("BoundaryTest.java"), test);
        JavaCompiler compiler = ToolProvider.getSystemJavaCompiler();
        try (StandardJavaFileManager files = compiler.getStandardFileManager(null, null, null)) {
            List<String> options = new ArrayList<>(List.of("-nowarn", "-d", room.toString()));
            boolean fine = compiler.getTask(new StringWriter(), files, null, options, null,
                    files.getJavaFileObjects(programFile, testFile)).call();
            if (!fine) {
                return null;
            }
        }
        try (URLClassLoader loader = new URLClassLoader(new URL[] {room.toUri().toURL()}, null)) {
            Method method = loader.loadClass("BoundaryTest").getDeclaredMethod(what);
            method.setAccessible(true);
            return method.invoke(null);
        }
    }
}
