/** The sentences of 'What it is' and of 'Terms' (but for the texts) that name a boundary, each with its own test. */
public final class EdgeTermsTest {
    private static final int TIP = HoopStairs.TIP, SHAKE = HoopStairs.SHAKE, DRAG = HoopStairs.DRAG,
        TAP = HoopStairs.TAP;
    private static final int NO_SUCH = HoopStairs.NO_SUCH, BAD_VALUE = HoopStairs.BAD_VALUE,
        BAD_TEXT = HoopStairs.BAD_TEXT, TOO_MANY = HoopStairs.TOO_MANY, NOT_POSSIBLE = HoopStairs.NOT_POSSIBLE,
        NONE = HoopStairs.NONE;

    public static void main(String[] args) {
        Sentence.under("What it is");
        Sentence.says("An object is used for at most 512 calls after it has been made", EdgeTermsTest::calls512);
        Sentence.under("Terms");
        conventions();
        settingsAndParts();
        hoopsAndDrops();
        landingsAndGates();
        endsAndTaps();
        Check.end();
    }

    private static void conventions() {
        Sentence.says("it names its errors in the order in which they are checked, and the first one that applies is "
            + "returned", EdgeTermsTest::theFirstError);
        Sentence.says("A call that returns an error changes nothing.", EdgeTermsTest::errorsChangeNothing);
        Sentence.says("it is returned only if no error applies", EdgeTermsTest::noneBehindErrors);
        Sentence.says("Everything is numbered from 0.", EdgeTermsTest::numberedFrom0);
        Sentence.says("Divisions are rounded towards 0.", EdgeTermsTest::roundedTowards0);
        Sentence.says("What can be below 0 is told with an offset.", EdgeTermsTest::offset);
        Sentence.says("---- what if; nothing changes.", EdgeTermsTest::askingChangesNothing);
    }

    private static void settingsAndParts() {
        Sentence.says("TIP (10 to 99; 45): lean at which a hoop falls", EdgeTermsTest::tip);
        Sentence.says("SHAKE (0 to 20; 4): how much a drop shakes", EdgeTermsTest::shake);
        Sentence.says("DRAG (0 to 20; 3): speed that a landing takes", EdgeTermsTest::drag);
        Sentence.says("TAP (1 to 30; 8): lean that a tap takes", EdgeTermsTest::tapSetting);
        Sentence.says("There are up to 20 parts", EdgeTermsTest::upTo20Parts);
        Sentence.says("in a row from the top on, told by their places, 0 on", EdgeTermsTest::placesFrom0On);
        Sentence.says("a part is a drop (0) of some height (1 to 9)", EdgeTermsTest::heights);
        Sentence.says("a landing (1) of some length (1 to 9)", EdgeTermsTest::lengths);
        Sentence.says("or a gate (2) of some width (1 to 99)", EdgeTermsTest::widths);
    }

    private static void hoopsAndDrops() {
        Sentence.says("A hoop has a size, 1 to 60", EdgeTermsTest::sizes);
        Sentence.says("a speed (10 at first; 0 to 99)", EdgeTermsTest::speeds);
        Sentence.says("a lean (0 at first; below 0 to the left, above 0 to the right)", EdgeTermsTest::leans);
        Sentence.says("and a wobble (0 at first; 0 to 99)", EdgeTermsTest::wobbles);
        Sentence.says("It stands ahead of the part 0 as a run begins", EdgeTermsTest::aheadOfPart0);
        Sentence.says("its speed becomes h * 4 more, 99 at most", EdgeTermsTest::dropsMakeItFaster);
        Sentence.says("its wobble SHAKE * h more, 99 at most", EdgeTermsTest::dropsShakeIt);
        Sentence.says("and its lean changes by (wobble then) / 4, to the right if the place of the part is even, to "
            + "the left if it is odd.", EdgeTermsTest::dropsLeanIt);
    }

    private static void landingsAndGates() {
        Sentence.says("for each of it, one after the other", EdgeTermsTest::oneAfterTheOther);
        Sentence.says("the speed becomes DRAG less, 0 at least", EdgeTermsTest::landingsSlowIt);
        Sentence.says("the wobble 1/4 less (wobble / 4)", EdgeTermsTest::landingsCalmIt);
        Sentence.says("the lean by speed / 20 nearer to 0, but not beyond.", EdgeTermsTest::landingsRightIt);
        Sentence.says("If the speed is 0 behind all of it, the hoop stops.", EdgeTermsTest::stopsBehindAllOfIt);
        Sentence.says("it passes if its size and a quarter of its wobble, together, are w or less; otherwise it is "
            + "stuck.", EdgeTermsTest::gatesJustWideEnough);
    }

    private static void endsAndTaps() {
        Sentence.says("Behind each part (but for one at which it is stuck or stops): if its lean, without a sign, is "
            + "TIP or more, it falls.", EdgeTermsTest::fallsAtTip);
        Sentence.says("The run is over when the hoop falls (1), is stuck (2), stops (3), or is behind the last part "
            + "(4); until then it rolls (0).", EdgeTermsTest::overOrRolling);
        Sentence.says("A tap, while it rolls", EdgeTermsTest::tapsWhileItRolls);
        Sentence.says("its lean changes by TAP toward the other side than the one from which it comes",
            EdgeTermsTest::tapsLeanIt);
        Sentence.says("its wobble becomes 2 more, 99 at most.", EdgeTermsTest::tapsShakeIt);
        Sentence.says("(A tap alone never makes it fall: that is looked at behind the next part.)",
            EdgeTermsTest::tapsAloneFellNone);
        Sentence.says("A push makes it 5 faster, 99 at most.", EdgeTermsTest::pushesMakeItFaster);
    }

    private static void due(String call, int got, int want) {
        Check.due(call, got, want);
    }

    private static void hoopIs(String when, HoopStairs x, int speed, int lean, int wobble) {
        due(when + ", speed", x.ofHoop(1), speed);
        due(when + ", lean", x.ofHoop(2), lean + 500);
        due(when + ", wobble", x.ofHoop(3), wobble);
    }

    /** A stair of these parts, with a setting of its own, and a hoop of the size 9 that rolls. */
    private static HoopStairs rolling(String parts, int setting, int value) {
        HoopStairs x = Check.stairOf(parts);
        x.set(TIP, 99);
        x.set(setting, value);
        x.hoop(9);
        return x;
    }

    // ---- what it is, conventions

    private static void calls512() {
        HoopStairs tapped = new HoopStairs();
        tapped.set(TAP, 30);
        tapped.hoop(1);
        Worlds.taps(tapped, 509, 1);
        due("the last call after 509 taps", tapped.ofHoop(2), 500 - 30 * 509);
        HoopStairs hooped = new HoopStairs();
        for (int run = 1; run <= 512; run++) {
            due("hoop " + run, hooped.hoop(1 + run % 60), run);
        }
        HoopStairs rolled = Check.stairOf("g1");
        for (int run = 1; run <= 255; run++) {
            rolled.hoop(2);
            due("roll " + run, rolled.roll(1), 2);
        }
        due("the last call after 255 runs", rolled.of(0, 3), 255);
        HoopStairs undone = new HoopStairs();
        for (int call = 1; call <= 510; call++) {
            undone.set(TIP, 10 + call % 90);
        }
        due("undo after 510 changes", undone.undo(), 5);
        due("the last call", undone.count(10), 10 + 509 % 90);
    }

    private static void theFirstError() {
        HoopStairs x = Worlds.full();
        due("part(21, 3, 0)", x.part(21, 3, 0), NO_SUCH);
        due("part(-1, 0, 10)", x.part(-1, 0, 10), NO_SUCH);
        due("part(21, 0, 1) of twenty", x.part(21, 0, 1), NO_SUCH);
        due("part(20, 3, 1) of twenty", x.part(20, 3, 1), BAD_VALUE);
        due("part(0, 0, 0) of twenty", x.part(0, 0, 0), BAD_VALUE);
        due("roll(0) without a hoop", x.roll(0), BAD_VALUE);
        due("roll(21) without a hoop", x.roll(21), BAD_VALUE);
        due("tap(2) without a hoop", x.tap(2), BAD_VALUE);
        due("of(20, 5)", x.of(20, 5), NO_SUCH);
        due("of(-1, -1)", x.of(-1, -1), NO_SUCH);
        due("run(0, 4) without runs", x.run(0, 4), NO_SUCH);
        due("run(-1, -1)", x.run(-1, -1), NO_SUCH);
        due("ifRolled(4) without a hoop", x.ifRolled(4), BAD_VALUE);
        due("saves(2) without a hoop", x.saves(2), BAD_VALUE);
        due("traced(0, 20, 3)", x.traced(0, 20, 3), NO_SUCH);
        due("traced(61, -1, -1)", x.traced(61, -1, -1), NO_SUCH);
        due("restore(2), nothing saved", x.restore(2), BAD_VALUE);
        Check.putText(x, "!".repeat(80));
        due("put(0) on a full pad", x.put(0), BAD_VALUE);
        due("put(32) on a full pad", x.put(32), BAD_VALUE);
    }

    private static void refused(String call, Worlds.Named world, Worlds.Call refused, int error) {
        HoopStairs x = world.make();
        due(world.name() + ", " + call, refused.on(x), error);
        Twins.areTheSame(world.name() + ", then " + call, x, world.make());
    }

    private static void errorsChangeNothing() {
        changesRefused(new Worlds.Named("busy", Worlds::busy));
        textsAndSlotsRefused(new Worlds.Named("busy", Worlds::busy));
        questionsRefused(new Worlds.Named("busy", Worlds::busy));
        Worlds.Named over = new Worlds.Named("over", Worlds::over);
        refused("roll(1)", over, x -> x.roll(1), NOT_POSSIBLE);
        refused("tap(0)", over, x -> x.tap(0), NOT_POSSIBLE);
        refused("tap(1)", over, x -> x.tap(1), NOT_POSSIBLE);
        refused("push()", over, HoopStairs::push, NOT_POSSIBLE);
        refused("ifRolled(0)", over, x -> x.ifRolled(0), NOT_POSSIBLE);
        refused("saves(0)", over, x -> x.saves(0), NOT_POSSIBLE);
        refused("put('!')", over, x -> x.put('!'), TOO_MANY);
        refused("carryOut()", over, HoopStairs::carryOut, BAD_TEXT);
        Worlds.Named full = new Worlds.Named("full", Worlds::full);
        refused("part(0, 0, 1)", full, x -> x.part(0, 0, 1), TOO_MANY);
        refused("part(20, 2, 99)", full, x -> x.part(20, 2, 99), TOO_MANY);
        refused("restore(0)", full, x -> x.restore(0), NOT_POSSIBLE);
        Worlds.Named fresh = new Worlds.Named("new", HoopStairs::new);
        refused("undo()", fresh, HoopStairs::undo, NOT_POSSIBLE);
        refused("takeAway(0)", fresh, x -> x.takeAway(0), NO_SUCH);
        refused("carryOut()", fresh, HoopStairs::carryOut, BAD_TEXT);
    }

    private static void changesRefused(Worlds.Named busy) {
        refused("set(4, 10)", busy, x -> x.set(4, 10), BAD_VALUE);
        refused("set(-1, 10)", busy, x -> x.set(-1, 10), BAD_VALUE);
        refused("set(0, 9)", busy, x -> x.set(0, 9), BAD_VALUE);
        refused("set(3, 31)", busy, x -> x.set(3, 31), BAD_VALUE);
        refused("part(5, 0, 1)", busy, x -> x.part(5, 0, 1), NO_SUCH);
        refused("part(-1, 0, 1)", busy, x -> x.part(-1, 0, 1), NO_SUCH);
        refused("part(0, 3, 1)", busy, x -> x.part(0, 3, 1), BAD_VALUE);
        refused("part(4, 2, 100)", busy, x -> x.part(4, 2, 100), BAD_VALUE);
        refused("takeAway(4)", busy, x -> x.takeAway(4), NO_SUCH);
        refused("takeAway(-1)", busy, x -> x.takeAway(-1), NO_SUCH);
        refused("hoop(0)", busy, x -> x.hoop(0), BAD_VALUE);
        refused("hoop(61)", busy, x -> x.hoop(61), BAD_VALUE);
        refused("roll(0)", busy, x -> x.roll(0), BAD_VALUE);
        refused("roll(21)", busy, x -> x.roll(21), BAD_VALUE);
        refused("tap(-1)", busy, x -> x.tap(-1), BAD_VALUE);
        refused("tap(2)", busy, x -> x.tap(2), BAD_VALUE);
    }

    private static void textsAndSlotsRefused(Worlds.Named busy) {
        refused("put(0)", busy, x -> x.put(0), BAD_VALUE);
        refused("put(32)", busy, x -> x.put(32), BAD_VALUE);
        refused("put of a bad one behind good ones", busy, x -> x.put(Check.packed("d1;\u007f")), BAD_VALUE);
        refused("put with a gap", busy, x -> x.put('d' << 16 | 'd'), BAD_VALUE);
        refused("carryOut()", busy, HoopStairs::carryOut, BAD_TEXT);
        refused("save(2)", busy, x -> x.save(2), BAD_VALUE);
        refused("save(-1)", busy, x -> x.save(-1), BAD_VALUE);
        refused("restore(2)", busy, x -> x.restore(2), BAD_VALUE);
        refused("restore(1)", busy, x -> x.restore(1), NOT_POSSIBLE);
    }

    private static void questionsRefused(Worlds.Named busy) {
        refused("of(4, 0)", busy, x -> x.of(4, 0), NO_SUCH);
        refused("of(0, 5)", busy, x -> x.of(0, 5), BAD_VALUE);
        refused("ofHoop(8)", busy, x -> x.ofHoop(8), BAD_VALUE);
        refused("run(1, 0)", busy, x -> x.run(1, 0), NO_SUCH);
        refused("run(0, 4)", busy, x -> x.run(0, 4), BAD_VALUE);
        refused("count(16)", busy, x -> x.count(16), BAD_VALUE);
        refused("ifRolled(4)", busy, x -> x.ifRolled(4), BAD_VALUE);
        refused("saves(2)", busy, x -> x.saves(2), BAD_VALUE);
        refused("traced(9, 4, 0)", busy, x -> x.traced(9, 4, 0), NO_SUCH);
        refused("traced(61, 0, 0)", busy, x -> x.traced(61, 0, 0), BAD_VALUE);
        refused("traced(9, 0, 3)", busy, x -> x.traced(9, 0, 3), BAD_VALUE);
    }

    private static void noneBehindErrors() {
        HoopStairs x = Check.stairOf("g1 g1");
        due("ofHoop(8), no hoop", x.ofHoop(8), BAD_VALUE);
        due("ofHoop(-1), no hoop", x.ofHoop(-1), BAD_VALUE);
        due("ofHoop(0), no hoop", x.ofHoop(0), NONE);
        due("traced(60, 2, 0), where none comes", x.traced(60, 2, 0), NO_SUCH);
        due("traced(61, 0, 0), where none comes", x.traced(61, 0, 0), BAD_VALUE);
        due("traced(60, 0, 3), where none comes", x.traced(60, 0, 3), BAD_VALUE);
        due("traced(60, 0, 0), where none comes", x.traced(60, 0, 0), NONE);
        due("saves(0), no hoop", x.saves(0), NOT_POSSIBLE);
        x.hoop(60);
        due("saves(2), where none saves", x.saves(2), BAD_VALUE);
        due("saves(0), where none saves", x.saves(0), NONE);
    }

    private static void numberedFrom0() {
        HoopStairs x = new HoopStairs();
        due("the first place is 0", x.part(0, 2, 8), 1);
        due("a part's first what", x.of(0, 0), 2);
        x.hoop(7);
        x.roll(1);
        due("the first rank is 0", x.run(0, 0), 7);
        due("a hoop's first what", x.ofHoop(0), 7);
        due("the first count", x.count(0), 1);
        due("the first setting is 0", x.set(0, 50), 45);
        due("the first slot is 0", x.save(0), 1);
        due("the first slot again", x.restore(0), 1);
        due("the first what of traced", x.traced(8, 0, 0), 10);
        x.hoop(8);
        due("the first side is 0", x.tap(0), 508);
        due("the first what of ifRolled", x.ifRolled(0), 4);
        x.put('?');
        due("the first index of a text is 0", x.fault(), 0);
    }

    private static void roundedTowards0() {
        HoopStairs x = rolling("d1", SHAKE, 3);
        x.roll(1);
        hoopIs("3/4 to the right", x, 14, 0, 3);
        x = rolling("g99 d1", SHAKE, 3);
        x.roll(2);
        hoopIs("3/4 to the left", x, 14, 0, 3);
        x = rolling("g99 d1", SHAKE, 7);
        x.roll(2);
        hoopIs("7/4 to the left", x, 14, -1, 7);
        x = rolling("d1 g10", SHAKE, 7);
        due("7/4 of wobble at a gate", x.roll(2), 4);
        x = rolling("d1 l1", SHAKE, 7);
        x.roll(2);
        hoopIs("7/4 less", x, 11, 1, 6);
        x = rolling("l1", DRAG, 1);
        Worlds.pushes(x, 6);
        x.tap(1);
        x.roll(1);
        hoopIs("39/20 nearer", x, 39, -7, 2);
    }

    private static void offset() {
        HoopStairs x = Check.stairOf("g60 d9");
        due("traced to the left", x.traced(1, 1, 1), 500 - 9);
        due("traced in the middle", x.traced(1, 0, 1), 500);
        x.hoop(1);
        due("in the middle", x.ofHoop(2), 500);
        due("a tap to the left", x.tap(1), 500 - 8);
        due("the hoop's, to the left", x.ofHoop(2), 500 - 8);
        x.tap(0);
        due("a tap to the right", x.tap(0), 500 + 8);
        due("the hoop's, to the right", x.ofHoop(2), 500 + 8);
    }

    private static void askingChangesNothing() {
        HoopStairs x = Worlds.busy();
        for (int what = 0; what < 4; what++) {
            x.ifRolled(what);
        }
        x.widest();
        x.saves(0);
        x.saves(1);
        x.traced(60, 3, 0);
        x.traced(1, 0, 1);
        Twins.areTheSame("asked", x, Worlds.busy());
    }

    // ---- settings

    private static void rangeIs(int setting, int least, int greatest, int first) {
        HoopStairs x = new HoopStairs();
        due("at first", x.count(10 + setting), first);
        due("one less than the least", x.set(setting, least - 1), BAD_VALUE);
        due("one more than the greatest", x.set(setting, greatest + 1), BAD_VALUE);
        due("the first still", x.count(10 + setting), first);
        due("the least", x.set(setting, least), first);
        due("the greatest", x.set(setting, greatest), least);
        due("then", x.count(10 + setting), greatest);
    }

    private static void tip() {
        rangeIs(TIP, 10, 99, 45);
        for (int tip : new int[] {10, 45, 99}) {
            for (int lean : new int[] {tip - 1, tip, 1 - tip, -tip}) {
                HoopStairs x = Check.stairOf("g99 g99");
                if (tip != 45) {
                    x.set(TIP, tip);
                }
                x.hoop(1);
                Worlds.lean(x, lean);
                due("TIP " + tip + ", lean " + lean, x.roll(1), Math.abs(lean) == tip ? 1 : 0);
            }
        }
    }

    private static void shake() {
        rangeIs(SHAKE, 0, 20, 4);
        HoopStairs x = Worlds.rolling("d1");
        x.roll(1);
        hoopIs("the first", x, 14, 1, 4);
        x = rolling("d9", SHAKE, 0);
        x.roll(1);
        hoopIs("the least", x, 46, 0, 0);
        x = rolling("d1", SHAKE, 20);
        x.roll(1);
        hoopIs("the greatest", x, 14, 5, 20);
    }

    private static void drag() {
        rangeIs(DRAG, 0, 20, 3);
        HoopStairs x = Worlds.rolling("l1");
        x.roll(1);
        hoopIs("the first", x, 7, 0, 0);
        x = rolling("l9", DRAG, 0);
        x.roll(1);
        hoopIs("the least", x, 10, 0, 0);
        x = rolling("l1", DRAG, 20);
        Worlds.pushes(x, 3);
        x.roll(1);
        hoopIs("the greatest", x, 5, 0, 0);
    }

    private static void tapSetting() {
        rangeIs(TAP, 1, 30, 8);
        HoopStairs x = Worlds.rolling("g99");
        due("the first", x.tap(0), 508);
        x.set(TAP, 1);
        due("the least", x.tap(0), 509);
        x.set(TAP, 30);
        due("the greatest", x.tap(0), 539);
    }

    // ---- the stair

    private static void upTo20Parts() {
        HoopStairs x = new HoopStairs();
        for (int parts = 1; parts <= 20; parts++) {
            due("the part " + parts, x.part(parts - 1, 2, 60 + parts), parts);
        }
        due("one more", x.part(20, 2, 60), TOO_MANY);
        due("twenty", x.count(0), 20);
        due("the first of them", x.of(0, 1), 61);
        due("the last of them", x.of(19, 1), 80);
        x.hoop(60);
        due("over nineteen", x.roll(19), 0);
        due("over the last", x.roll(1), 4);
    }

    private static void placesFrom0On() {
        HoopStairs x = Check.stairOf("d1 d2");
        due("0", x.of(0, 1), 1);
        due("1", x.of(1, 1), 2);
        due("2", x.of(2, 1), NO_SUCH);
        due("-1", x.of(-1, 1), NO_SUCH);
        due("0 is on top", x.traced(1, 0, 0), 14);
        due("1 is next", x.traced(1, 1, 0), 22);
    }

    private static void valuesOf(int kind, int greatest) {
        HoopStairs x = new HoopStairs();
        due("0", x.part(0, kind, 0), BAD_VALUE);
        due("-1", x.part(0, kind, -1), BAD_VALUE);
        due("one more than the greatest", x.part(0, kind, greatest + 1), BAD_VALUE);
        due("none came", x.count(0), 0);
        due("1", x.part(0, kind, 1), 1);
        due("the greatest", x.part(1, kind, greatest), 2);
        due("1 is told", x.of(0, 1), 1);
        due("the greatest is told", x.of(1, 1), greatest);
        due("its kind", x.of(0, 0), kind);
    }

    private static void heights() {
        valuesOf(0, 9);
        due("a drop of 1", Check.stairOf("d1").traced(1, 0, 0), 14);
        due("a drop of 9", Check.stairOf("d9").traced(1, 0, 0), 46);
    }

    private static void lengths() {
        valuesOf(1, 9);
        due("a landing of 1", Check.stairOf("l1").traced(1, 0, 0), 7);
        HoopStairs x = Check.stairOf("l9");
        x.set(DRAG, 1);
        due("a landing of 9", x.traced(1, 0, 0), 1);
    }

    private static void widths() {
        valuesOf(2, 99);
        due("a gate of 1", Check.stairOf("g1").widest(), 1);
        HoopStairs x = Check.stairOf("d9 d9 g99");
        x.set(SHAKE, 20);
        due("a gate of 99", x.widest(), 60);
    }

    // ---- a hoop

    private static void sizes() {
        HoopStairs x = new HoopStairs();
        due("0", x.hoop(0), BAD_VALUE);
        due("61", x.hoop(61), BAD_VALUE);
        due("1", x.hoop(1), 1);
        due("1 is told", x.ofHoop(0), 1);
        due("60", x.hoop(60), 2);
        due("60 is told", x.ofHoop(0), 60);
    }

    private static void speeds() {
        HoopStairs x = Worlds.rolling("d9 d9 d9");
        due("at first", x.ofHoop(1), 10);
        x.roll(3);
        due("not above 99", x.ofHoop(1), 99);
        x.hoop(9);
        due("at first, after a fast one", x.ofHoop(1), 10);
        x = Worlds.rolling("l9");
        x.roll(1);
        due("not below 0", x.ofHoop(1), 0);
        x.hoop(9);
        due("at first, after one that stopped", x.ofHoop(1), 10);
    }

    private static void leans() {
        HoopStairs x = Worlds.rolling("d9");
        due("at first", x.ofHoop(2), 500);
        x.tap(1);
        Check.holds("below 0 to the left", x.ofHoop(2) < 500);
        x.tap(0);
        due("neither", x.ofHoop(2), 500);
        x.tap(0);
        Check.holds("above 0 to the right", x.ofHoop(2) > 500);
        x.hoop(9);
        due("at first again", x.ofHoop(2), 500);
    }

    private static void wobbles() {
        HoopStairs x = rolling("d9 d9", SHAKE, 20);
        due("at first", x.ofHoop(3), 0);
        x.roll(1);
        due("not above 99", x.ofHoop(3), 99);
        x.roll(1);
        due("not above 99 again", x.ofHoop(3), 99);
        x.hoop(9);
        due("at first again", x.ofHoop(3), 0);
        x = rolling("l9 l9", DRAG, 0);
        x.roll(2);
        due("not below 0", x.ofHoop(3), 0);
    }

    private static void aheadOfPart0() {
        HoopStairs x = Check.stairOf("d1 d2 d3");
        x.hoop(9);
        due("the next is 0", x.ofHoop(4), 0);
        x.roll(1);
        due("that is done first", x.ofHoop(1), 14);
        x.roll(1);
        x.hoop(9);
        due("0 again for a new one", x.ofHoop(4), 0);
        x.roll(1);
        due("and first again", x.ofHoop(1), 14);
        x.roll(20);
        x.hoop(9);
        due("0 after one that passed", x.ofHoop(4), 0);
    }

    // ---- drops

    private static void dropsMakeItFaster() {
        int[][] cases = {{0, 1, 14}, {0, 9, 46}, {13, 6, 99}, {16, 2, 98}, {16, 3, 99}, {17, 1, 99}, {18, 1, 99},
            {18, 9, 99}};
        for (int[] one : cases) {
            HoopStairs x = rolling("d" + one[1], SHAKE, 0);
            Worlds.pushes(x, one[0]);
            x.roll(1);
            due("d" + one[1] + " after " + one[0] + " pushes", x.ofHoop(1), one[2]);
        }
    }

    private static void dropsShakeIt() {
        int[][] cases = {{0, 9, 0}, {1, 1, 1}, {20, 1, 20}, {14, 7, 98}, {11, 9, 99}, {20, 5, 99}, {20, 9, 99}};
        for (int[] one : cases) {
            HoopStairs x = rolling("d" + one[1], SHAKE, one[0]);
            x.roll(1);
            due("d" + one[1] + " with SHAKE " + one[0], x.ofHoop(3), one[2]);
        }
        HoopStairs x = rolling("d7 d1", SHAKE, 14);
        x.roll(1);
        x.set(SHAKE, 1);
        x.roll(1);
        due("98 and 1", x.ofHoop(3), 99);
    }

    private static void dropsLeanIt() {
        int[][] cases = {{3, 1, 0}, {4, 1, 1}, {7, 1, 1}, {8, 1, 2}, {14, 7, 24}, {20, 9, 24}};
        for (int[] one : cases) {
            for (int ahead : new int[] {0, 1, 18, 19}) {
                HoopStairs x = rolling("g99 ".repeat(ahead) + "d" + one[1], SHAKE, one[0]);
                x.roll(20);
                due("SHAKE " + one[0] + ", d" + one[1] + " at " + ahead, x.ofHoop(2),
                    500 + (ahead % 2 == 0 ? one[2] : -one[2]));
            }
        }
    }

    // ---- landings

    private static void oneAfterTheOther() {
        HoopStairs x = rolling("d9 l1 g99", SHAKE, 11);
        x.roll(1);
        hoopIs("ahead of it", x, 46, 24, 99);
        x.roll(1);
        hoopIs("l1", x, 43, 22, 75);
        x = rolling("d9 l2 g99", SHAKE, 11);
        x.roll(2);
        hoopIs("l2", x, 40, 20, 57);
        x = rolling("d9 l9 g99", SHAKE, 11);
        x.roll(2);
        hoopIs("l9", x, 19, 24 - 2 - 2 - 1 - 1 - 1 - 1 - 1 - 1, 9);
    }

    private static void landingsSlowIt() {
        int[][] cases = {{9, 1, 1}, {10, 1, 0}, {11, 1, 0}, {20, 1, 0}, {20, 9, 0}, {1, 9, 1}, {2, 5, 0}, {2, 4, 2},
            {0, 9, 10}, {4, 3, 0}};
        for (int[] one : cases) {
            HoopStairs x = rolling("l" + one[1], DRAG, one[0]);
            x.roll(1);
            due("l" + one[1] + " with DRAG " + one[0], x.ofHoop(1), one[2]);
        }
    }

    private static void landingsCalmIt() {
        int[][] cases = {{0, 1, 0}, {1, 1, 1}, {3, 1, 3}, {4, 1, 3}, {5, 1, 4}, {7, 1, 6}, {8, 1, 6}, {14, 7, 74},
            {11, 9, 75}};
        for (int[] one : cases) {
            HoopStairs x = rolling("d" + one[1] + " l1", SHAKE, one[0]);
            x.roll(2);
            due("wobble " + one[0] * one[1], x.ofHoop(3), one[2]);
        }
    }

    private static void landingsRightIt() {
        int[][] cases = {{1, 15, 0}, {2, 20, 1}, {5, 35, 1}, {6, 40, 2}, {10, 60, 3}, {13, 75, 3}, {14, 80, 4},
            {18, 99, 4}};
        for (int[] one : cases) {
            for (int lean = -6; lean <= 6; lean++) {
                HoopStairs x = rolling("l1", DRAG, 0);
                Worlds.pushes(x, one[0]);
                Worlds.lean(x, lean);
                x.roll(1);
                int behind = Integer.signum(lean) * Math.max(0, Math.abs(lean) - one[2]);
                due("lean " + lean + ", speed " + one[1], x.ofHoop(2), 500 + behind);
            }
        }
        HoopStairs x = rolling("l1", DRAG, 1);
        Worlds.pushes(x, 2);
        Worlds.lean(x, 5);
        x.roll(1);
        due("by the speed that is DRAG less, 19", x.ofHoop(2), 505);
    }

    private static void stopsBehindAllOfIt() {
        int[][] cases = {{9, 1, 4}, {10, 1, 3}, {11, 1, 3}, {5, 2, 3}, {3, 3, 4}, {3, 4, 3}, {1, 9, 4}, {20, 9, 3},
            {0, 9, 4}};
        for (int[] one : cases) {
            HoopStairs x = rolling("l" + one[1], DRAG, one[0]);
            due("l" + one[1] + " with DRAG " + one[0], x.roll(1), one[2]);
        }
        HoopStairs x = rolling("d9 l9 g99", SHAKE, 11);
        x.set(DRAG, 20);
        due("without speed from its middle on", x.roll(20), 3);
        hoopIs("behind all of it", x, 0, 23, 9);
        due("at it", x.ofHoop(4), 1);
        x = rolling("l3 l1 g99", DRAG, 3);
        due("with a speed of 1 it rolls on", x.roll(1), 0);
        due("and stops at the next", x.roll(20), 3);
        due("there", x.ofHoop(4), 1);
    }

    // ---- gates

    private static void gatesJustWideEnough() {
        // The size, SHAKE, the height of a drop ahead of the gate, and the least width that lets it pass.
        int[][] cases = {{1, 0, 1, 1}, {1, 3, 1, 1}, {1, 4, 1, 2}, {60, 3, 1, 60}, {60, 4, 1, 61}, {9, 7, 1, 10},
            {9, 8, 1, 11}, {60, 14, 7, 84}, {60, 11, 9, 84}, {60, 20, 9, 84}};
        for (int[] one : cases) {
            due("a width just enough for " + one[0], throughAGate(one, one[3]), 4);
            if (one[3] > 1) {
                due("a width of one less for " + one[0], throughAGate(one, one[3] - 1), 2);
            }
        }
    }

    private static int throughAGate(int[] one, int width) {
        HoopStairs x = Check.stairOf("d" + one[2] + " g" + width);
        x.set(TIP, 99);
        x.set(SHAKE, one[1]);
        x.hoop(one[0]);
        return x.roll(20);
    }

    // ---- how a run ends

    private static void fallsAtTip() {
        for (String part : new String[] {"d1", "l1", "g99"}) {
            for (int lean : new int[] {20, -20, 19, -19}) {
                HoopStairs x = rolling(part + " " + part, SHAKE, 0);
                x.set(DRAG, 0);
                x.set(TIP, 20);
                Worlds.lean(x, lean);
                boolean falls = Math.abs(lean) == 20;
                due(part + " with lean " + lean, x.roll(1), falls ? 1 : 0);
                due(part + " with lean " + lean + ", place", x.ofHoop(4), falls ? 0 : 1);
            }
        }
        HoopStairs last = rolling("g99", TIP, 10);
        Worlds.lean(last, 10);
        due("at the last part, too", last.roll(20), 1);
        HoopStairs stuck = rolling("g8", TIP, 10);
        Worlds.lean(stuck, 99);
        due("not where it is stuck", stuck.roll(1), 2);
        HoopStairs stops = rolling("l9", TIP, 10);
        Worlds.lean(stops, -99);
        due("not where it stops", stops.roll(1), 3);
        HoopStairs set = rolling("g99 g99 g99", TIP, 20);
        Worlds.lean(set, 15);
        due("below TIP", set.roll(1), 0);
        set.set(TIP, 15);
        due("a TIP that is set does not make it fall", set.ofHoop(5), 0);
        due("but behind the next part", set.roll(1), 1);
    }

    private static void overOrRolling() {
        for (int way = 1; way <= 4; way++) {
            HoopStairs x = Worlds.ended(way);
            due("over as " + way, x.ofHoop(5), way);
            due("told as " + way, x.run(0, 1), way);
            due("rolls no more, " + way, x.roll(1), NOT_POSSIBLE);
        }
        HoopStairs x = Worlds.manyOf(20, "g9");
        x.hoop(9);
        for (int part = 1; part <= 20; part++) {
            due("until then it rolls", x.ofHoop(5), 0);
            due("the part " + part, x.roll(1), part == 20 ? 4 : 0);
        }
    }

    // ---- taps and pushes

    private static void tapsWhileItRolls() {
        for (Worlds.Named world : Worlds.withoutAHoopThatRolls()) {
            refused("tap(0)", world, x -> x.tap(0), NOT_POSSIBLE);
            refused("tap(1)", world, x -> x.tap(1), NOT_POSSIBLE);
            refused("push()", world, HoopStairs::push, NOT_POSSIBLE);
        }
        due("ahead of the first part", Worlds.rolling("g9 g9").tap(0), 508);
        HoopStairs last = Worlds.rolling("g9 g9");
        last.roll(1);
        due("ahead of the last part", last.tap(0), 508);
        due("without parts", Worlds.rolling("").tap(0), 508);
    }

    private static void tapsLeanIt() {
        for (int tap : new int[] {1, 8, 30}) {
            HoopStairs x = rolling("g99", TAP, tap);
            due("from the left, TAP " + tap, x.tap(0), 500 + tap);
            due("and back, TAP " + tap, x.tap(1), 500);
            due("from the right, TAP " + tap, x.tap(1), 500 - tap);
        }
    }

    private static void tapsShakeIt() {
        HoopStairs x = rolling("d1", SHAKE, 0);
        x.tap(0);
        due("2", x.ofHoop(3), 2);
        Worlds.taps(x, 48, 1);
        due("98 after 49 taps", x.ofHoop(3), 98);
        x.tap(0);
        due("99 at most from 98", x.ofHoop(3), 99);
        x.tap(0);
        due("99 at most from 99", x.ofHoop(3), 99);
        x = rolling("d1 g99", SHAKE, 1);
        x.roll(1);
        Worlds.taps(x, 48, 0);
        due("97 after a drop and 48 taps", x.ofHoop(3), 97);
        x.tap(1);
        due("99 just so from 97", x.ofHoop(3), 99);
    }

    private static void tapsAloneFellNone() {
        for (int from = 0; from < 2; from++) {
            HoopStairs x = rolling("g99 g99", TIP, 10);
            x.set(TAP, 30);
            Worlds.taps(x, 10, from);
            due("a lean of 300 or -300", x.ofHoop(2), from == 0 ? 800 : 200);
            due("it rolls", x.ofHoop(5), 0);
            due("no run is over", x.run(0, 0), NO_SUCH);
            due("none fell", x.count(2), 0);
            Worlds.taps(x, 10, 1 - from);
            due("tapped back it does not fall", x.roll(1), 0);
            x.tap(from);
            due("behind the next part it does", x.roll(1), 1);
        }
        HoopStairs bare = new HoopStairs();
        bare.hoop(9);
        Worlds.lean(bare, 400);
        due("without a part it falls nowhere", bare.roll(1), 4);
    }

    private static void pushesMakeItFaster() {
        HoopStairs x = Worlds.rolling("d1 g99");
        due("the first", x.push(), 15);
        Worlds.pushes(x, 15);
        due("to 95", x.push(), 95);
        due("99 at most from 95", x.push(), 99);
        due("99 at most from 99", x.push(), 99);
        x = Worlds.rolling("d1 g99");
        x.roll(1);
        Worlds.pushes(x, 15);
        due("to 94", x.push(), 94);
        due("99 just so from 94", x.push(), 99);
    }
}
