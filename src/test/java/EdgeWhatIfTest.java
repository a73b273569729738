/** The sentences of the promises 13 to 16 that name a boundary, each with its own test. */
public final class EdgeWhatIfTest {
    private static final int NO_SUCH = HoopStairs.NO_SUCH, BAD_VALUE = HoopStairs.BAD_VALUE,
        NOT_POSSIBLE = HoopStairs.NOT_POSSIBLE, NONE = HoopStairs.NONE;
    private static final int TIP = HoopStairs.TIP, SHAKE = HoopStairs.SHAKE, DRAG = HoopStairs.DRAG,
        TAP = HoopStairs.TAP;
    private static final int LOWEST = Integer.MIN_VALUE, HIGHEST = Integer.MAX_VALUE;

    public static void main(String[] args) {
        ifRolled();
        widestAndSaves();
        traced();
        Check.end();
    }

    private static void ifRolled() {
        Sentence.under("Promise 13: ifRolled");
        Sentence.says("Tells how a run of the hoop would end, if it rolled on without taps and pushes.",
            EdgeWhatIfTest::rollsOnFromNow);
        Sentence.says("`what`: 0 how, 1 to 4, 1 the place, 2 the speed then", EdgeWhatIfTest::eachWayToEnd);
        Sentence.says("3 the greatest lean, without a sign, behind parts from now on (but for one at which it is stuck "
            + "or stops; 0 if there is none)", EdgeWhatIfTest::greatestLean);
        Sentence.says("BAD_VALUE if what is out of range", EdgeWhatIfTest::badWhatIfRolled);
        Sentence.says("NOT_POSSIBLE if no hoop rolls", EdgeWhatIfTest::noHoopIfRolled);
    }

    private static void widestAndSaves() {
        Sentence.under("Promise 14: widest");
        Sentence.says("Finds the widest hoop that would pass the whole stair without taps and pushes.",
            EdgeWhatIfTest::widestOfTheWholeStair);
        Sentence.says("Returns its size; NONE if none does.", EdgeWhatIfTest::widestOrNone);
        Sentence.under("Promise 15: saves");
        Sentence.says("the fewest, 0 to 20", EdgeWhatIfTest::fewestTaps);
        Sentence.says("would let the hoop pass all parts that are left, without others",
            EdgeWhatIfTest::partsThatAreLeft);
        Sentence.says("`from`: 0 from the left, 1 from the right", EdgeWhatIfTest::sidesThatSave);
        Sentence.says("BAD_VALUE if from is neither", EdgeWhatIfTest::badSideThatSaves);
        Sentence.says("NOT_POSSIBLE if no hoop rolls", EdgeWhatIfTest::noHoopToSave);
        Sentence.says("NONE if none of these does", EdgeWhatIfTest::noneSaves);
    }

    private static void traced() {
        Sentence.under("Promise 16: traced");
        Sentence.says("Tells what a whole run of a hoop without taps and pushes is like at a part.",
            EdgeWhatIfTest::tracedFromTheTop);
        Sentence.says("`size`: 1 to 60", EdgeWhatIfTest::sizesTraced);
        Sentence.says("`place`: behind this part", EdgeWhatIfTest::tracedBehindAPart);
        Sentence.says("`what`: 0 its speed, 1 its lean and 500, 2 its wobble", EdgeWhatIfTest::whatIsTraced);
        Sentence.says("NO_SUCH if there is no such part", EdgeWhatIfTest::noPartToTrace);
        Sentence.says("BAD_VALUE if size or what is out of range", EdgeWhatIfTest::badSizeOrWhat);
        Sentence.says("NONE if the run ends at it, or ahead of it, otherwise than behind the last part.",
            EdgeWhatIfTest::endsAheadOfIt);
    }

    private static void due(String call, int got, int want) {
        Check.due(call, got, want);
    }

    private static void rolledIs(String when, HoopStairs x, int how, int place, int speed, int lean) {
        due(when + ", how", x.ifRolled(0), how);
        due(when + ", place", x.ifRolled(1), place);
        due(when + ", speed", x.ifRolled(2), speed);
        due(when + ", lean", x.ifRolled(3), lean);
    }

    // ---- ifRolled

    private static void rollsOnFromNow() {
        HoopStairs x = Worlds.rolling("d1 g9 d2");
        x.set(SHAKE, 0);
        rolledIs("as it begins", x, 4, 3, 10 + 4 + 8, 0);
        x.tap(0);
        x.push();
        rolledIs("with a tap and a push that were", x, 4, 3, 15 + 4 + 8, 8);
        x.roll(1);
        rolledIs("from the part 1 on", x, 4, 3, 19 + 8, 8);
        x.tap(1);
        x.tap(1);
        rolledIs("wobbling too much for the part 1", x, 2, 1, 19, 0);
        due("it itself did not roll on", x.ofHoop(4), 1);
        HoopStairs passed = Worlds.rolling("g9 g9");
        passed.roll(1);
        rolledIs("from the last part on", passed, 4, 2, 10, 0);
        HoopStairs full = Worlds.manyOf(20, "g9");
        full.hoop(9);
        rolledIs("over twenty", full, 4, 20, 10, 0);
    }

    private static void eachWayToEnd() {
        HoopStairs fell = Worlds.rolling("g9 d9");
        fell.set(TIP, 10);
        fell.set(SHAKE, 20);
        rolledIs("falls", fell, 1, 1, 46, 24);
        HoopStairs stuck = Worlds.rolling("g9 g8");
        rolledIs("is stuck", stuck, 2, 1, 10, 0);
        HoopStairs stops = Worlds.rolling("g9 l9");
        rolledIs("stops", stops, 3, 1, 0, 0);
        HoopStairs passes = Worlds.rolling("g9 d9");
        rolledIs("passes", passes, 4, 2, 46, 9);
        HoopStairs bare = Worlds.rolling("");
        rolledIs("without parts", bare, 4, 0, 10, 0);
        HoopStairs fast = Worlds.rolling("d9 d9 d9");
        due("99 at most", fast.ifRolled(2), 99);
    }

    private static void greatestLean() {
        HoopStairs bare = Worlds.rolling("");
        Worlds.lean(bare, 300);
        due("no part, however it leans", bare.ifRolled(3), 0);
        HoopStairs stuck = Worlds.rolling("g8");
        Worlds.lean(stuck, 30);
        due("but for one at which it is stuck", stuck.ifRolled(3), 0);
        HoopStairs stops = Worlds.rolling("l9");
        Worlds.lean(stops, -30);
        due("but for one at which it stops", stops.ifRolled(3), 0);
        HoopStairs falls = Worlds.rolling("g60");
        Worlds.lean(falls, -300);
        due("not but for one at which it falls", falls.ifRolled(3), 300);
        HoopStairs aheadOfStuck = Worlds.rolling("g60 g8");
        Worlds.lean(aheadOfStuck, -30);
        due("behind the part ahead of that", aheadOfStuck.ifRolled(3), 30);
        HoopStairs righted = Worlds.rolling("l1");
        Worlds.pushes(righted, 18);
        Worlds.lean(righted, 40);
        due("not the lean of now, but behind the part", righted.ifRolled(3), 36);
        HoopStairs x = Worlds.rolling("d1 d9 d1");
        due("to the left, in the middle", x.ifRolled(3), 9);
        x.roll(1);
        due("from the part 1 on", x.ifRolled(3), 9);
        x.roll(1);
        due("from now on, not what was", x.ifRolled(3), 2);
        due("to the right, at the first", Worlds.rolling("d9 l9").ifRolled(3), 9);
    }

    private static void badWhatIfRolled() {
        for (HoopStairs x : new HoopStairs[] {new HoopStairs(), Worlds.rolling("d1"), Worlds.ended(4)}) {
            for (int what : new int[] {-1, 4, 5, LOWEST, HIGHEST}) {
                due("ifRolled(" + what + ")", x.ifRolled(what), BAD_VALUE);
            }
        }
        due("ifRolled(0)", Worlds.rolling("d1").ifRolled(0), 4);
        due("ifRolled(3)", Worlds.rolling("d1").ifRolled(3), 1);
    }

    private static void noHoopIfRolled() {
        for (Worlds.Named world : Worlds.withoutAHoopThatRolls()) {
            for (int what = 0; what < 4; what++) {
                due(world.name() + ", ifRolled(" + what + ")", world.make().ifRolled(what), NOT_POSSIBLE);
            }
        }
        due("one that rolls", Worlds.rolling("d1 d1").ifRolled(0), 4);
    }

    // ---- widest

    private static void widestOfTheWholeStair() {
        HoopStairs x = Check.stairOf("g20 g30");
        due("without a hoop", x.widest(), 20);
        x.hoop(15);
        due("with one", x.widest(), 20);
        x.roll(1);
        due("of the whole stair, not of what is left", x.widest(), 20);
        x.hoop(50);
        Worlds.taps(x, 60, 0);
        Worlds.pushes(x, 20);
        due("however one is tapped and pushed", x.widest(), 20);
        x.roll(1);
        due("with one that is over", x.widest(), 20);
        due("that one was stuck", x.ofHoop(5), 2);
        HoopStairs last = Worlds.manyOf(19, "g50");
        last.part(19, 2, 33);
        due("the twentieth part, too", last.widest(), 33);
    }

    private static void widestOrNone() {
        due("60 without parts", new HoopStairs().widest(), 60);
        int[] widths = {99, 61, 60, 59, 2, 1};
        for (int width : widths) {
            due("g" + width, Check.stairOf("g" + width).widest(), Math.min(60, width));
        }
        HoopStairs shaken = Check.stairOf("d1 g1");
        due("none, since it wobbles", shaken.widest(), NONE);
        shaken.set(SHAKE, 3);
        due("3/4 is no more", shaken.widest(), 1);
        due("none, since all stop", Check.stairOf("l9").widest(), NONE);
        HoopStairs falling = Check.stairOf("d9");
        falling.set(TIP, 10);
        due("a lean of 9 at TIP 10", falling.widest(), 60);
        falling.set(SHAKE, 5);
        due("none, since all fall", falling.widest(), NONE);
        HoopStairs wobbly = Check.stairOf("d9 g84");
        wobbly.set(SHAKE, 20);
        due("60 and 99/4 at g84", wobbly.widest(), 60);
        wobbly.takeAway(1);
        wobbly.part(1, 2, 83);
        due("59 and 99/4 at g83", wobbly.widest(), 59);
    }

    // ---- saves

    /** A hoop of the size 9 on a wide gate that leans so far, at the TIP 99, with this TAP. */
    private static HoopStairs leaning(int lean, int tap) {
        HoopStairs x = Worlds.rolling("g99");
        x.set(TIP, 99);
        Worlds.lean(x, lean);
        x.set(TAP, tap);
        return x;
    }

    private static void fewestTaps() {
        due("0 if it passes as it is", leaning(98, 8).saves(0), 0);
        due("0 from the other side, too", leaning(98, 8).saves(1), 0);
        due("1 at the tip", leaning(99, 1).saves(1), 1);
        due("1 from the left", leaning(-99, 1).saves(0), 1);
        due("19", leaning(98 + 19, 1).saves(1), 19);
        due("20", leaning(98 + 20, 1).saves(1), 20);
        due("21 are too many", leaning(98 + 21, 1).saves(1), NONE);
        due("20 from the left", leaning(-98 - 20, 1).saves(0), 20);
        due("21 from the left", leaning(-98 - 21, 1).saves(0), NONE);
        due("20 of 30", leaning(-98 - 600, 30).saves(0), 20);
        due("21 of 30", leaning(-98 - 601, 30).saves(0), NONE);
        HoopStairs many = leaning(-120, 30);
        due("the fewest, though more would do", many.saves(0), 1);
        HoopStairs tooFew = leaning(-120, 10);
        tooFew.set(TIP, 10);
        due("none fewer than those that bring it below TIP", tooFew.saves(0), 12);
        due("without parts", Worlds.rolling("").saves(0), 0);
    }

    private static void partsThatAreLeft() {
        HoopStairs x = Check.stairOf("g9 g10 g60");
        x.set(TIP, 10);
        x.hoop(9);
        x.set(TAP, 9);
        x.tap(0);
        x.roll(1);
        x.tap(0);
        due("a tap back makes its wobble 6, so just passes", x.saves(1), 1);
        x.tap(0);
        due("two would make its wobble 10", x.saves(1), NONE);
        HoopStairs later = Check.stairOf("g8 g99 d9");
        later.set(TIP, 10);
        later.hoop(8);
        later.roll(1);
        due("it passes what is left", later.saves(0), 0);
        later.set(SHAKE, 5);
        due("tapped from the right it passes the last", later.saves(1), 1);
        HoopStairs behind = Check.stairOf("g8 g99");
        behind.hoop(8);
        behind.roll(1);
        Worlds.lean(behind, 45);
        due("a gate that it passed before does not matter", behind.saves(1), 1);
        HoopStairs slow = Worlds.rolling("l9");
        due("pushes are no taps", slow.saves(0), NONE);
        Worlds.pushes(slow, 4);
        due("but count when they were", slow.saves(0), 0);
        HoopStairs shaken = leaning(99, 1);
        shaken.takeAway(0);
        due("gone", shaken.saves(0), NOT_POSSIBLE);
    }

    private static void sidesThatSave() {
        HoopStairs right = leaning(99, 8);
        due("leaning to the right, from the left", right.saves(0), NONE);
        due("leaning to the right, from the right", right.saves(1), 1);
        HoopStairs left = leaning(-99, 8);
        due("leaning to the left, from the left", left.saves(0), 1);
        due("leaning to the left, from the right", left.saves(1), NONE);
        due("-1", left.saves(-1), BAD_VALUE);
        due("2", left.saves(2), BAD_VALUE);
    }

    private static void badSideThatSaves() {
        for (HoopStairs x : new HoopStairs[] {new HoopStairs(), Worlds.rolling("d1"), Worlds.ended(4)}) {
            for (int from : new int[] {-1, 2, 3, LOWEST, HIGHEST}) {
                due("saves(" + from + ")", x.saves(from), BAD_VALUE);
            }
        }
    }

    private static void noHoopToSave() {
        for (Worlds.Named world : Worlds.withoutAHoopThatRolls()) {
            due(world.name() + ", saves(0)", world.make().saves(0), NOT_POSSIBLE);
            due(world.name() + ", saves(1)", world.make().saves(1), NOT_POSSIBLE);
        }
        due("one that rolls", Worlds.rolling("d1 d1").saves(0), 0);
    }

    private static void noneSaves() {
        HoopStairs x = Worlds.rolling("g8");
        due("too wide", x.saves(0), NONE);
        due("too wide, from the right", x.saves(1), NONE);
        due("stops", Worlds.rolling("l9").saves(0), NONE);
        HoopStairs shaken = Worlds.rolling("g10");
        Worlds.lean(shaken, 50);
        shaken.set(TAP, 5);
        due("one tap makes its wobble 6, two make it 8, and only they bring it below TIP", shaken.saves(1), NONE);
        due("farther off", leaning(98 + 601, 30).saves(1), NONE);
    }

    // ---- traced

    private static void tracedFromTheTop() {
        HoopStairs x = Check.stairOf("d1 d2");
        x.set(SHAKE, 8);
        x.hoop(60);
        x.tap(0);
        x.push();
        x.roll(1);
        due("speed", x.traced(1, 1, 0), 10 + 4 + 8);
        due("lean", x.traced(1, 1, 1), 500 + 2 - 6);
        due("wobble", x.traced(1, 1, 2), 24);
        x.roll(1);
        due("speed behind the part 0, with a run that is over", x.traced(1, 0, 0), 14);
        due("lean", x.traced(1, 0, 1), 502);
        due("wobble", x.traced(1, 0, 2), 8);
    }

    private static void sizesTraced() {
        HoopStairs x = Check.stairOf("g60");
        for (int size = -1; size <= 62; size++) {
            due("size " + size, x.traced(size, 0, 0), size < 1 || size > 60 ? BAD_VALUE : 10);
        }
        HoopStairs narrow = Check.stairOf("g59 g1");
        due("59 behind g59", narrow.traced(59, 0, 0), 10);
        due("60 behind g59", narrow.traced(60, 0, 0), NONE);
        due("1 behind g1", narrow.traced(1, 1, 0), 10);
        due("2 behind g1", narrow.traced(2, 1, 0), NONE);
    }

    private static void tracedBehindAPart() {
        HoopStairs x = Worlds.manyOf(20, "d1");
        x.set(SHAKE, 0);
        for (int place = 0; place < 20; place++) {
            due("behind " + place, x.traced(1, place, 0), 14 + 4 * place);
        }
        HoopStairs one = Check.stairOf("l1");
        due("behind the only one", one.traced(1, 0, 0), 7);
    }

    private static void whatIsTraced() {
        HoopStairs x = Check.stairOf("d9 d9 d9 d9");
        x.set(SHAKE, 20);
        int[][] wanted = {{46, 524, 99}, {82, 500, 99}, {99, 524, 99}, {99, 500, 99}};
        for (int place = 0; place < 4; place++) {
            for (int what = 0; what < 3; what++) {
                due("traced(60, " + place + ", " + what + ")", x.traced(60, place, what), wanted[place][what]);
            }
        }
        HoopStairs left = Check.stairOf("g60 d9");
        left.set(SHAKE, 20);
        due("a lean to the left", left.traced(60, 1, 1), 500 - 24);
    }

    private static void noPartToTrace() {
        for (int parts : new int[] {0, 1, 20}) {
            HoopStairs x = Worlds.manyOf(parts, "g60");
            for (int place : new int[] {-1, parts, parts + 1, LOWEST, HIGHEST}) {
                due("traced(1, " + place + ", 0) of " + parts, x.traced(1, place, 0), NO_SUCH);
            }
        }
        due("of two, where it is stuck at the first", Check.stairOf("g1 g1").traced(2, 2, 0), NO_SUCH);
    }

    private static void badSizeOrWhat() {
        HoopStairs x = Check.stairOf("g60 g1");
        for (int size : new int[] {0, 61, -1, LOWEST, HIGHEST}) {
            due("size " + size, x.traced(size, 0, 0), BAD_VALUE);
            due("size " + size + " where none comes", x.traced(size, 1, 2), BAD_VALUE);
        }
        for (int what : new int[] {-1, 3, 4, 7, LOWEST, HIGHEST}) {
            due("what " + what, x.traced(1, 0, what), BAD_VALUE);
            due("what " + what + " where none comes", x.traced(60, 1, what), BAD_VALUE);
        }
        due("what 0", x.traced(1, 0, 0), 10);
        due("what 2", x.traced(1, 0, 2), 0);
    }

    private static void endsAheadOfIt() {
        String[] ends = {"d9", "g8", "l9"};
        for (int way = 1; way <= 3; way++) {
            HoopStairs x = Check.stairOf("g9 " + ends[way - 1] + " g99 g99");
            x.set(TIP, 10);
            x.set(SHAKE, 20);
            due("ahead of the end as " + way, x.traced(9, 0, 0), 10);
            due("at it as " + way, x.traced(9, 1, 0), NONE);
            due("behind it as " + way, x.traced(9, 2, 0), NONE);
            due("at the last part, as " + way, x.traced(9, 3, 0), NONE);
            HoopStairs last = Check.stairOf("g9 " + ends[way - 1]);
            last.set(TIP, 10);
            last.set(SHAKE, 20);
            for (int what = 0; what < 3; what++) {
                due("an end as " + way + " at the last part, " + what, last.traced(9, 1, what), NONE);
            }
        }
        HoopStairs passes = Check.stairOf("g9 g9");
        due("ends behind the last part", passes.traced(9, 1, 0), 10);
        HoopStairs slow = Check.stairOf("l3 l1");
        due("a speed of 1 behind a part", slow.traced(9, 0, 0), 1);
        due("stops at the last part", slow.traced(9, 1, 0), NONE);
        HoopStairs still = Check.stairOf("l9");
        still.set(DRAG, 0);
        due("without drag it does not stop", still.traced(9, 0, 0), 10);
    }
}
