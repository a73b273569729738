/** The sentences of the promises 1 to 8 that name a boundary, each with its own test. */
public final class EdgeChangesTest {
    private static final int NO_SUCH = HoopStairs.NO_SUCH, BAD_VALUE = HoopStairs.BAD_VALUE,
        TOO_MANY = HoopStairs.TOO_MANY, NOT_POSSIBLE = HoopStairs.NOT_POSSIBLE, NONE = HoopStairs.NONE;
    private static final int LOWEST = Integer.MIN_VALUE, HIGHEST = Integer.MAX_VALUE;

    public static void main(String[] args) {
        newAndSet();
        partAndTakeAway();
        hoopAndRoll();
        tapAndPush();
        Check.end();
    }

    private static void newAndSet() {
        Sentence.under("Promise 1: A new object");
        Sentence.says("Creates a stair without parts, and no hoop.", EdgeChangesTest::newIsEmpty);
        Sentence.under("Promise 2: set");
        Sentence.says("Returns the previous value", EdgeChangesTest::previousValue);
        Sentence.says("BAD_VALUE if there is no such setting", EdgeChangesTest::noSuchSetting);
        Sentence.says("or the value is out of its range", EdgeChangesTest::settingOutOfRange);
        Sentence.says("This is a change.", () -> oneChange(x -> x.set(0, 10), x -> x.set(0, 9)));
    }

    private static void partAndTakeAway() {
        Sentence.under("Promise 3: part");
        Sentence.says("a run that is going on, or over, is gone then, with its hoop.", EdgeChangesTest::partEndsRuns);
        Sentence.says("`place`: 0 to how many parts there are: the place that it has then",
            EdgeChangesTest::placeOfPart);
        Sentence.says("`kind`: 0 a drop, 1 a landing, 2 a gate", EdgeChangesTest::kindOfPart);
        Sentence.says("`value`: 1 to 9; of a gate 1 to 99", EdgeChangesTest::valueOfPart);
        Sentence.says("Returns how many parts there are then", EdgeChangesTest::partCounts);
        Sentence.says("NO_SUCH if there is no such place", EdgeChangesTest::noSuchPlace);
        Sentence.says("BAD_VALUE if kind or value is out of range", EdgeChangesTest::badPart);
        Sentence.says("TOO_MANY if there are 20", EdgeChangesTest::tooManyParts);
        Sentence.says("This is a change.", () -> oneChange(x -> x.part(2, 0, 9), x -> x.part(3, 0, 9)));
        Sentence.under("Promise 4: takeAway");
        Sentence.says("a run is gone as for part()", EdgeChangesTest::takeAwayEndsRuns);
        Sentence.says("Returns how many are left", EdgeChangesTest::howManyAreLeft);
        Sentence.says("NO_SUCH if there is no such part", EdgeChangesTest::noPartToTake);
        Sentence.says("This is a change.", () -> oneChange(x -> x.takeAway(1), x -> x.takeAway(2)));
    }

    private static void hoopAndRoll() {
        Sentence.under("Promise 5: hoop");
        Sentence.says("A run begins with a new hoop, in place of one that there is", EdgeChangesTest::inPlaceOfOne);
        Sentence.says("it rolls (0), also if there are no parts (then roll() ends it)",
            EdgeChangesTest::rollsWithoutParts);
        Sentence.says("`size`: 1 to 60", EdgeChangesTest::sizesOfHoops);
        Sentence.says("Returns how many runs there have been, with this one", EdgeChangesTest::runsSoFar);
        Sentence.says("BAD_VALUE if size is out of range", EdgeChangesTest::badSize);
        Sentence.says("This is a change.", () -> oneChange(x -> x.hoop(60), x -> x.hoop(61)));
        Sentence.under("Promise 6: roll");
        Sentence.says("`parts`: 1 to 20: over so many, or until the run is over", EdgeChangesTest::overSoMany);
        Sentence.says("Returns how the run is then, 0 to 4", EdgeChangesTest::howTheRunIs);
        Sentence.says("BAD_VALUE if parts is out of range", EdgeChangesTest::badParts);
        Sentence.says("NOT_POSSIBLE if no hoop rolls", EdgeChangesTest::noHoopToRoll);
        Sentence.says("This is a change.", () -> oneChange(x -> x.roll(20), x -> x.roll(21)));
    }

    private static void tapAndPush() {
        Sentence.under("Promise 7: tap");
        Sentence.says("`from`: 0 from the left, 1 from the right", EdgeChangesTest::sides);
        Sentence.says("Returns the lean then and 500 (just so, also if that is below 0)", EdgeChangesTest::leansBelow0);
        Sentence.says("BAD_VALUE if from is neither", EdgeChangesTest::badSide);
        Sentence.says("NOT_POSSIBLE if no hoop rolls", EdgeChangesTest::noHoopToTap);
        Sentence.says("This is a change.", () -> oneChange(x -> x.tap(1), x -> x.tap(2)));
        Sentence.under("Promise 8: push");
        Sentence.says("Returns the speed then", EdgeChangesTest::speedThen);
        Sentence.says("NOT_POSSIBLE if no hoop rolls", EdgeChangesTest::noHoopToPush);
        Sentence.says("This is a change.", EdgeChangesTest::pushIsAChange);
    }

    private static void due(String call, int got, int want) {
        Check.due(call, got, want);
    }

    /** A call that does something to a hoop that rolls over two parts, and one that is refused there. */
    private static void oneChange(Worlds.Call call, Worlds.Call refused) {
        HoopStairs x = Worlds.rolling("g9 g9");
        Check.holds("one is refused", refused.on(x) < 0);
        due("which is none", x.count(15), 3);
        Check.holds("the other is not", call.on(x) >= 0);
        due("which is one", x.count(15), 4);
        due("undone", x.undo(), 3);
        Twins.tellTheSame("undone", x, Worlds.rolling("g9 g9"));
        for (int i = 0; i < 9; i++) {
            x.hoop(9);
            call.on(x);
        }
        due("six at most", x.count(15), 6);
    }

    // ---- a new object, settings

    private static void newIsEmpty() {
        HoopStairs x = new HoopStairs();
        due("no part", x.of(0, 0), NO_SUCH);
        due("none to take away", x.takeAway(0), NO_SUCH);
        due("no hoop", x.ofHoop(0), NONE);
        due("none that rolls", x.roll(1), NOT_POSSIBLE);
        due("no run", x.run(0, 0), NO_SUCH);
        for (int what = 0; what < 10; what++) {
            due("count(" + what + ")", x.count(what), 0);
        }
        due("no character", x.count(14), 0);
        due("nothing to undo", x.count(15), 0);
        due("undo()", x.undo(), NOT_POSSIBLE);
        due("restore(0)", x.restore(0), NOT_POSSIBLE);
        due("restore(1)", x.restore(1), NOT_POSSIBLE);
        due("save(0)", x.save(0), 0);
        due("all hoops pass", x.widest(), 60);
    }

    private static void previousValue() {
        int[] first = {45, 4, 3, 8};
        for (int setting = 0; setting < 4; setting++) {
            HoopStairs x = new HoopStairs();
            due("the first value of " + setting, x.set(setting, 12), first[setting]);
            due("the same again", x.set(setting, 12), 12);
            due("another", x.set(setting, 15), 12);
            due("refused", x.set(setting, 100), BAD_VALUE);
            due("the last one that was not refused", x.set(setting, 20), 15);
        }
        HoopStairs x = new HoopStairs();
        x.set(HoopStairs.SHAKE, 0);
        due("0", x.set(HoopStairs.SHAKE, 1), 0);
    }

    private static void noSuchSetting() {
        HoopStairs x = new HoopStairs();
        for (int setting : new int[] {-1, 4, 5, LOWEST, HIGHEST}) {
            due("set(" + setting + ", 10)", x.set(setting, 10), BAD_VALUE);
        }
        int[] first = {45, 4, 3, 8};
        for (int setting = 0; setting < 4; setting++) {
            due("there is " + setting, x.set(setting, 10), first[setting]);
        }
    }

    private static void settingOutOfRange() {
        int[] least = {10, 0, 0, 1}, greatest = {99, 20, 20, 30};
        for (int setting = 0; setting < 4; setting++) {
            HoopStairs x = new HoopStairs();
            for (int value : new int[] {least[setting] - 1, greatest[setting] + 1, -1, LOWEST, HIGHEST}) {
                due("set(" + setting + ", " + value + ")", x.set(setting, value), BAD_VALUE);
            }
            Check.holds("the least", x.set(setting, least[setting]) >= 0);
            due("the greatest", x.set(setting, greatest[setting]), least[setting]);
        }
    }

    // ---- parts

    private static void isGone(String when, HoopStairs x, int runs) {
        for (int what = 0; what < 8; what++) {
            due(when + ", ofHoop(" + what + ")", x.ofHoop(what), NONE);
        }
        due(when + ", roll(1)", x.roll(1), NOT_POSSIBLE);
        due(when + ", tap(0)", x.tap(0), NOT_POSSIBLE);
        due(when + ", runs so far", x.count(1), runs);
    }

    private static void partEndsRuns() {
        for (int place = 0; place <= 2; place++) {
            HoopStairs x = Worlds.rolling("d1 d2");
            x.roll(1);
            x.part(place, 1, 1);
            isGone("going on, a part at " + place, x, 1);
            due("it is none that is over", x.run(0, 0), NO_SUCH);
        }
        for (int way = 1; way <= 4; way++) {
            HoopStairs x = Worlds.ended(way);
            x.part(0, 2, 99);
            isGone("over as " + way, x, 1);
            due("it counts as before", x.count(way + 1), 1);
        }
        HoopStairs bare = Worlds.rolling("");
        bare.part(0, 0, 1);
        isGone("going on without parts", bare, 1);
        HoopStairs refused = Worlds.rolling("d1");
        refused.part(2, 0, 1);
        refused.part(0, 0, 10);
        due("a part that is refused ends none", refused.ofHoop(5), 0);
        HoopStairs full = Worlds.manyOf(20, "g9");
        full.hoop(9);
        full.part(0, 0, 1);
        due("one too many ends none", full.roll(20), 4);
    }

    private static void placeOfPart() {
        for (int parts : new int[] {0, 1, 2, 19}) {
            for (int place = 0; place <= parts; place++) {
                HoopStairs x = differentParts(parts);
                due("at " + place + " of " + parts, x.part(place, 2, 99), parts + 1);
                for (int i = 0; i < place; i++) {
                    isTheDifferentPart(x, i, i);
                }
                due("its kind", x.of(place, 0), 2);
                due("its value", x.of(place, 1), 99);
                for (int i = place; i < parts; i++) {
                    isTheDifferentPart(x, i + 1, i);
                }
            }
        }
    }

    /** Parts of which no two that are next to one another are the same. */
    private static HoopStairs differentParts(int parts) {
        HoopStairs x = new HoopStairs();
        for (int i = 0; i < parts; i++) {
            x.part(i, i % 3, 1 + i % 8);
        }
        return x;
    }

    private static void isTheDifferentPart(HoopStairs x, int place, int number) {
        due("the kind at " + place, x.of(place, 0), number % 3);
        due("the value at " + place, x.of(place, 1), 1 + number % 8);
    }

    private static void kindOfPart() {
        HoopStairs x = new HoopStairs();
        due("-1", x.part(0, -1, 5), BAD_VALUE);
        due("3", x.part(0, 3, 5), BAD_VALUE);
        for (int kind = 0; kind < 3; kind++) {
            due("kind " + kind, x.part(kind, kind, 5), kind + 1);
            due("told", x.of(kind, 0), kind);
        }
        due("0 is a drop", x.count(7), 5);
        due("1 is a landing", x.count(8), 5);
        due("2 is a gate", x.count(6), 5);
    }

    private static void valueOfPart() {
        for (int kind = 0; kind < 3; kind++) {
            int greatest = kind == 2 ? 99 : 9;
            HoopStairs x = new HoopStairs();
            due("0, kind " + kind, x.part(0, kind, 0), BAD_VALUE);
            due("1, kind " + kind, x.part(0, kind, 1), 1);
            due("the greatest, kind " + kind, x.part(1, kind, greatest), 2);
            due("one more, kind " + kind, x.part(2, kind, greatest + 1), BAD_VALUE);
            due("told, kind " + kind, x.of(0, 1) * 100 + x.of(1, 1), 100 + greatest);
        }
    }

    private static void partCounts() {
        HoopStairs x = new HoopStairs();
        for (int parts = 1; parts <= 20; parts++) {
            due("the part " + parts, x.part(parts / 2, 0, 1), parts);
            due("counted", x.count(0), parts);
        }
    }

    private static void noSuchPlace() {
        for (int parts : new int[] {0, 1, 19, 20}) {
            HoopStairs x = Worlds.manyOf(parts, "d1");
            for (int place : new int[] {-1, parts + 1, parts + 2, LOWEST, HIGHEST}) {
                due("part(" + place + ") of " + parts, x.part(place, 0, 1), NO_SUCH);
            }
            due("as many as before", x.count(0), parts);
        }
    }

    private static void badPart() {
        HoopStairs x = Check.stairOf("d1");
        int[][] bad = {{-1, 1}, {3, 1}, {LOWEST, 1}, {HIGHEST, 1}, {0, 0}, {0, 10}, {1, 0}, {1, 10}, {2, 0}, {2, 100},
            {0, LOWEST}, {1, HIGHEST}, {2, LOWEST}, {2, HIGHEST}, {0, -1}, {1, 99}, {-1, 0}, {3, 100}};
        for (int[] one : bad) {
            for (int place = 0; place < 2; place++) {
                due("part(" + place + ", " + one[0] + ", " + one[1] + ")", x.part(place, one[0], one[1]), BAD_VALUE);
            }
        }
        due("as many as before", x.count(0), 1);
    }

    private static void tooManyParts() {
        HoopStairs x = Worlds.manyOf(19, "d1");
        due("the twentieth", x.part(19, 0, 1), 20);
        for (int place : new int[] {0, 10, 19, 20}) {
            due("part(" + place + ", 0, 1)", x.part(place, 0, 1), TOO_MANY);
            due("part(" + place + ", 2, 99)", x.part(place, 2, 99), TOO_MANY);
        }
        due("twenty", x.count(0), 20);
        x.takeAway(0);
        due("when one is away again", x.part(0, 1, 2), 20);
        due("it came", x.of(0, 0), 1);
        due("and no more again", x.part(0, 0, 1), TOO_MANY);
    }

    private static void takeAwayEndsRuns() {
        for (int place = 0; place < 3; place++) {
            HoopStairs x = Worlds.rolling("d1 d2 d3");
            x.roll(1);
            x.takeAway(place);
            isGone("going on, without the part " + place, x, 1);
            due("it is none that is over", x.run(0, 0), NO_SUCH);
        }
        for (int way = 1; way <= 4; way++) {
            HoopStairs x = Worlds.ended(way);
            x.takeAway(0);
            isGone("over as " + way + ", and no part is left", x, 1);
            due("it counts as before", x.count(way + 1), 1);
        }
        HoopStairs refused = Worlds.rolling("d1");
        refused.takeAway(1);
        refused.takeAway(-1);
        due("one that is refused ends none", refused.ofHoop(5), 0);
    }

    private static void howManyAreLeft() {
        for (int way = 0; way < 3; way++) {
            HoopStairs x = Worlds.manyOf(20, "d1");
            for (int left = 19; left >= 0; left--) {
                int place = way == 0 ? 0 : way == 1 ? left : left / 2;
                due("takeAway(" + place + ")", x.takeAway(place), left);
                due("counted", x.count(0), left);
            }
        }
        for (int place = 0; place < 20; place++) {
            HoopStairs x = differentParts(20);
            due("takeAway(" + place + ") of 20", x.takeAway(place), 19);
            for (int i = 0; i < 19; i++) {
                isTheDifferentPart(x, i, i < place ? i : i + 1);
            }
            due("no twentieth", x.of(19, 0), NO_SUCH);
        }
    }

    private static void noPartToTake() {
        for (int parts : new int[] {0, 1, 20}) {
            HoopStairs x = Worlds.manyOf(parts, "d1");
            for (int place : new int[] {-1, parts, parts + 1, LOWEST, HIGHEST}) {
                due("takeAway(" + place + ") of " + parts, x.takeAway(place), NO_SUCH);
            }
            due("as many as before", x.count(0), parts);
        }
        HoopStairs x = Check.stairOf("d1");
        due("the only one", x.takeAway(0), 0);
        due("none is left", x.takeAway(0), NO_SUCH);
    }

    // ---- hoops that roll

    private static void inPlaceOfOne() {
        HoopStairs x = Worlds.rolling("d1 d2");
        x.tap(0);
        x.push();
        x.roll(1);
        x.hoop(33);
        int[] first = {33, 10, 500, 0, 0, 0, 0, 0};
        for (int what = 0; what < 8; what++) {
            due("in place of one that rolls, ofHoop(" + what + ")", x.ofHoop(what), first[what]);
        }
        due("that one is not over", x.run(0, 0), NO_SUCH);
        for (int way = 1; way <= 4; way++) {
            HoopStairs over = Worlds.ended(way);
            over.hoop(33);
            for (int what = 0; what < 8; what++) {
                due("in place of one over as " + way + ", ofHoop(" + what + ")", over.ofHoop(what), first[what]);
            }
            due("that one stays told", over.run(0, 1), way);
            due("once", over.run(1, 1), NO_SUCH);
        }
    }

    private static void rollsWithoutParts() {
        HoopStairs x = new HoopStairs();
        x.hoop(60);
        due("it rolls", x.ofHoop(5), 0);
        due("no run is over", x.run(0, 0), NO_SUCH);
        due("it can be tapped", x.tap(0), 508);
        due("and pushed", x.push(), 15);
        due("roll(1) ends it", x.roll(1), 4);
        due("at 0", x.ofHoop(4), 0);
        due("it passed", x.count(5), 1);
        due("it is told", x.run(0, 1) * 100 + x.run(0, 2) * 10 + x.run(0, 3), 401);
        due("roll(1) again", x.roll(1), NOT_POSSIBLE);
        x.hoop(1);
        due("roll(20) ends it", x.roll(20), 4);
        HoopStairs emptied = Check.stairOf("g1");
        emptied.takeAway(0);
        emptied.hoop(60);
        due("also when all parts are taken away", emptied.roll(1), 4);
    }

    private static void sizesOfHoops() {
        HoopStairs x = new HoopStairs();
        for (int size = -1; size <= 62; size++) {
            due("hoop(" + size + ")", x.hoop(size), size < 1 || size > 60 ? BAD_VALUE : size);
        }
        due("the last one", x.ofHoop(0), 60);
    }

    private static void runsSoFar() {
        HoopStairs x = Check.stairOf("g9");
        due("the first", x.hoop(9), 1);
        due("in place of one that rolls", x.hoop(9), 2);
        x.roll(1);
        due("after one that is over", x.hoop(9), 3);
        x.part(0, 0, 1);
        due("after one that is gone", x.hoop(9), 4);
        due("refused", x.hoop(61), BAD_VALUE);
        due("after one that was refused", x.hoop(9), 5);
        x.undo();
        due("after one that was undone", x.hoop(9), 5);
        for (int run = 6; run <= 100; run++) {
            due("one more", x.hoop(9), run);
        }
        HoopStairs bare = new HoopStairs();
        due("the first without parts", bare.hoop(9), 1);
        due("the second without parts", bare.hoop(9), 2);
    }

    private static void badSize() {
        HoopStairs x = new HoopStairs();
        for (int size : new int[] {0, 61, -1, 99, LOWEST, HIGHEST}) {
            due("hoop(" + size + ")", x.hoop(size), BAD_VALUE);
        }
        due("no hoop", x.ofHoop(0), NONE);
        due("no run", x.count(1), 0);
    }

    private static void overSoMany() {
        for (int parts = 1; parts <= 20; parts++) {
            HoopStairs x = Worlds.manyOf(20, "g9");
            x.hoop(9);
            due("roll(" + parts + ") of 20", x.roll(parts), parts == 20 ? 4 : 0);
            due("then at", x.ofHoop(4), parts);
        }
        HoopStairs x = Worlds.rolling("g9 g9 g9");
        due("just to the end", x.roll(3), 4);
        x.hoop(9);
        due("more than there are", x.roll(4), 4);
        x.hoop(9);
        x.roll(2);
        due("more than are left", x.roll(20), 4);
        due("not behind the end", x.ofHoop(4), 3);
        HoopStairs stuck = Worlds.rolling("g9 g8 g9");
        due("until it is stuck", stuck.roll(20), 2);
        due("there", stuck.ofHoop(4), 1);
    }

    private static void howTheRunIs() {
        HoopStairs x = Worlds.rolling("g9 g9");
        due("0", x.roll(1), 0);
        due("4", x.roll(1), 4);
        String[] stairs = {"d9", "g8", "l9"};
        for (int way = 1; way <= 3; way++) {
            HoopStairs other = Worlds.rolling(stairs[way - 1]);
            other.set(HoopStairs.TIP, 10);
            other.tap(0);
            due("" + way, other.roll(20), way);
            due(way + " told again", other.ofHoop(5), way);
        }
    }

    private static void badParts() {
        HoopStairs x = Worlds.rolling("d1 d1");
        for (int parts : new int[] {0, 21, -1, 99, LOWEST, HIGHEST}) {
            due("roll(" + parts + ")", x.roll(parts), BAD_VALUE);
        }
        due("it did not move", x.ofHoop(4), 0);
    }

    private static void noHoopToRoll() {
        for (Worlds.Named world : Worlds.withoutAHoopThatRolls()) {
            due(world.name() + ", roll(1)", world.make().roll(1), NOT_POSSIBLE);
            due(world.name() + ", roll(20)", world.make().roll(20), NOT_POSSIBLE);
        }
        due("one that rolls", Worlds.rolling("d1 d1").roll(1), 0);
    }

    // ---- taps and pushes

    private static void sides() {
        HoopStairs x = Worlds.rolling("d1");
        due("-1", x.tap(-1), BAD_VALUE);
        due("0", x.tap(0), 508);
        due("1", x.tap(1), 500);
        due("1 again", x.tap(1), 492);
        due("2", x.tap(2), BAD_VALUE);
    }

    private static void leansBelow0() {
        HoopStairs x = Worlds.rolling("d1");
        x.set(HoopStairs.TAP, 30);
        for (int i = 1; i <= 16; i++) {
            due("tap " + i, x.tap(1), 500 - 30 * i);
        }
        x.set(HoopStairs.TAP, 20);
        due("just 0", x.tap(1), 0);
        x.set(HoopStairs.TAP, 1);
        for (int lean = -1; lean >= -8; lean--) {
            due("below 0", x.tap(1), lean);
            due("told below 0", x.ofHoop(2), lean);
        }
        due("each was a tap", x.ofHoop(6), 16 + 1 + 8);
        due("the changes that are recorded", x.count(15), 6);
        due("undone", x.undo(), 5);
        due("the lean then", x.ofHoop(2), -7);
        due("far to the right", farToTheRight(), 500 + 30 * 100);
    }

    private static int farToTheRight() {
        HoopStairs x = Worlds.rolling("d1");
        x.set(HoopStairs.TAP, 30);
        Worlds.taps(x, 99, 0);
        return x.tap(0);
    }

    private static void badSide() {
        HoopStairs x = Worlds.rolling("d1");
        for (int from : new int[] {-1, 2, 3, LOWEST, HIGHEST}) {
            due("tap(" + from + ")", x.tap(from), BAD_VALUE);
        }
        due("it was not tapped", x.ofHoop(2) * 10 + x.ofHoop(6), 5000);
    }

    private static void noHoopToTap() {
        for (Worlds.Named world : Worlds.withoutAHoopThatRolls()) {
            due(world.name() + ", tap(0)", world.make().tap(0), NOT_POSSIBLE);
            due(world.name() + ", tap(1)", world.make().tap(1), NOT_POSSIBLE);
        }
        due("one that rolls", Worlds.rolling("d1 d1").tap(1), 492);
    }

    private static void speedThen() {
        HoopStairs x = Worlds.rolling("d1");
        for (int push = 1; push <= 20; push++) {
            due("push " + push, x.push(), Math.min(99, 10 + 5 * push));
        }
        due("told again", x.ofHoop(1), 99);
        due("all pushes", x.ofHoop(7), 20);
        HoopStairs slow = Worlds.rolling("l3 d1");
        slow.roll(1);
        due("from a speed of 1", slow.push(), 6);
    }

    private static void noHoopToPush() {
        for (Worlds.Named world : Worlds.withoutAHoopThatRolls()) {
            due(world.name(), world.make().push(), NOT_POSSIBLE);
        }
        due("one that rolls", Worlds.rolling("d1 d1").push(), 15);
    }

    private static void pushIsAChange() {
        HoopStairs x = new HoopStairs();
        x.push();
        due("refused it is none", x.count(15), 0);
        x.hoop(9);
        x.push();
        due("else it is one", x.count(15), 2);
        due("undone", x.undo(), 1);
        due("as fast as before", x.ofHoop(1), 10);
        due("no push", x.ofHoop(7), 0);
        Worlds.pushes(x, 19);
        due("six at most, and also when it is no faster", x.count(15), 6);
        x.undo();
        due("one push less", x.ofHoop(7), 18);
    }
}
