/** The sentences of the promises 9 to 12 that name a boundary, each with its own test. */
public final class EdgeTellingTest {
    private static final int NO_SUCH = HoopStairs.NO_SUCH, BAD_VALUE = HoopStairs.BAD_VALUE, NONE = HoopStairs.NONE;
    private static final int LOWEST = Integer.MIN_VALUE, HIGHEST = Integer.MAX_VALUE;

    public static void main(String[] args) {
        ofParts();
        ofTheHoop();
        ofRuns();
        counts();
        Check.end();
    }

    private static void ofParts() {
        Sentence.under("Promise 9: of");
        Sentence.says("0 its kind, 1 its height, length or width", EdgeTellingTest::kindAndValue);
        Sentence.says("2 how many hoops fell, 3 stuck, 4 stopped there so far, since it came",
            EdgeTellingTest::endsSinceItCame);
        Sentence.says("NO_SUCH if there is no such part", EdgeTellingTest::noSuchPart);
        Sentence.says("BAD_VALUE if what is out of range", EdgeTellingTest::badWhatOfAPart);
    }

    private static void ofTheHoop() {
        Sentence.under("Promise 10: ofHoop");
        Sentence.says("`what`: 0 its size, 1 its speed, 2 its lean and 500, 3 its wobble",
            EdgeTellingTest::hoopAtItsEnds);
        Sentence.says("4 the place of the part that is next (or at which the run ended; how many parts there are if it "
            + "is behind the last one)", EdgeTellingTest::placeOfTheHoop);
        Sentence.says("5 how the run is, 0 to 4", EdgeTellingTest::howTheRunIs);
        Sentence.says("6 taps in this run, 7 pushes", EdgeTellingTest::tapsAndPushesOfThisRun);
        Sentence.says("BAD_VALUE if what is out of range", EdgeTellingTest::badWhatOfTheHoop);
        Sentence.says("NONE if there is none", EdgeTellingTest::noHoop);
    }

    private static void ofRuns() {
        Sentence.under("Promise 11: run");
        Sentence.says("Returns something of the runs that are over, the latest 10.", EdgeTellingTest::theLatest10);
        Sentence.says("`rank`: 0 for the latest one", EdgeTellingTest::rank0IsTheLatest);
        Sentence.says("`what`: 0 the size, 1 how it ended, 1 to 4, 2 the place at which it ended, 3 taps",
            EdgeTellingTest::whatOfRuns);
        Sentence.says("NO_SUCH if there are not so many", EdgeTellingTest::notSoManyRuns);
        Sentence.says("BAD_VALUE if what is out of range", EdgeTellingTest::badWhatOfARun);
    }

    private static void counts() {
        Sentence.under("Promise 12: count");
        Sentence.says("`what`: 0 parts, 1 runs so far", EdgeTellingTest::partsAndRuns);
        Sentence.says("2 those that fell, 3 were stuck, 4 stopped, 5 passed so far", EdgeTellingTest::endsSoFar);
        Sentence.says("6 the narrowest gate (0 without)", EdgeTellingTest::narrowestGate);
        Sentence.says("7 the height of all drops", EdgeTellingTest::heightOfDrops);
        Sentence.says("8 the length of all landings", EdgeTellingTest::lengthOfLandings);
        Sentence.says("9 taps so far", EdgeTellingTest::tapsSoFar);
        Sentence.says("10 to 13 the settings", EdgeTellingTest::settings);
        Sentence.says("14 the length of the pad", EdgeTellingTest::lengthOfThePad);
        Sentence.says("15 how many changes can be undone", EdgeTellingTest::changesToUndo);
        Sentence.says("BAD_VALUE if what is out of range", EdgeTellingTest::badWhatOfCount);
    }

    private static void due(String call, int got, int want) {
        Check.due(call, got, want);
    }

    // ---- of

    private static void kindAndValue() {
        HoopStairs x = Check.stairOf("d1 d9 l1 l9 g1 g99");
        int[][] wanted = {{0, 1}, {0, 9}, {1, 1}, {1, 9}, {2, 1}, {2, 99}};
        for (int place = 0; place < 6; place++) {
            due("kind at " + place, x.of(place, 0), wanted[place][0]);
            due("value at " + place, x.of(place, 1), wanted[place][1]);
        }
        HoopStairs full = Worlds.manyOf(19, "d1");
        full.part(19, 2, 77);
        due("kind at 19", full.of(19, 0), 2);
        due("value at 19", full.of(19, 1), 77);
    }

    private static void endsAre(String when, HoopStairs x, int place, int fell, int stuck, int stopped) {
        due(when + ", fell", x.of(place, 2), fell);
        due(when + ", stuck", x.of(place, 3), stuck);
        due(when + ", stopped", x.of(place, 4), stopped);
    }

    private static void endsSinceItCame() {
        HoopStairs x = Check.stairOf("g11 g11");
        endsAre("as it comes", x, 0, 0, 0, 0);
        for (int i = 0; i < 3; i++) {
            x.hoop(12);
            x.roll(20);
        }
        endsAre("three were stuck", x, 0, 0, 3, 0);
        endsAre("and not at the next", x, 1, 0, 0, 0);
        x.hoop(9);
        x.roll(20);
        endsAre("one that passes counts nowhere", x, 0, 0, 3, 0);
        endsAre("nor at the last", x, 1, 0, 0, 0);
        x.hoop(9);
        Worlds.lean(x, 45);
        x.roll(20);
        endsAre("one fell", x, 0, 1, 3, 0);
        x.part(0, 1, 9);
        endsAre("a part that comes, at the place of another", x, 0, 0, 0, 0);
        endsAre("the other goes on counting", x, 1, 1, 3, 0);
        x.hoop(9);
        x.roll(20);
        endsAre("one stopped", x, 0, 0, 0, 1);
        x.takeAway(1);
        x.part(1, 2, 9);
        endsAre("the same anew", x, 1, 0, 0, 0);
        endsAre("the one that stayed", x, 0, 0, 0, 1);
        x.takeAway(1);
        x.part(0, 2, 9);
        endsAre("the one that stayed, one place farther", x, 1, 0, 0, 1);
        x.takeAway(0);
        endsAre("and back", x, 0, 0, 0, 1);
        endsAre("the next one", x, 1, 0, 0, 0);
        HoopStairs full = Worlds.manyOf(19, "g9");
        full.part(19, 2, 8);
        full.hoop(9);
        full.roll(20);
        endsAre("at 19", full, 19, 0, 1, 0);
        full.takeAway(19);
        full.part(19, 2, 8);
        endsAre("at 19, anew", full, 19, 0, 0, 0);
    }

    private static void noSuchPart() {
        for (int parts : new int[] {0, 1, 20}) {
            HoopStairs x = Worlds.manyOf(parts, "d1");
            for (int place : new int[] {-1, parts, parts + 1, LOWEST, HIGHEST}) {
                due("of(" + place + ", 0) of " + parts, x.of(place, 0), NO_SUCH);
                due("of(" + place + ", 4) of " + parts, x.of(place, 4), NO_SUCH);
            }
        }
        HoopStairs x = Check.stairOf("d1 d2");
        x.takeAway(0);
        due("one that was taken away", x.of(1, 0), NO_SUCH);
        due("the last one", x.of(0, 1), 2);
    }

    private static void badWhatOfAPart() {
        HoopStairs x = Worlds.manyOf(20, "d1");
        for (int what : new int[] {-1, 5, 6, LOWEST, HIGHEST}) {
            due("of(0, " + what + ")", x.of(0, what), BAD_VALUE);
            due("of(19, " + what + ")", x.of(19, what), BAD_VALUE);
        }
        due("of(0, 0)", x.of(0, 0), 0);
        due("of(0, 4)", x.of(0, 4), 0);
    }

    // ---- ofHoop

    private static void hoopIs(String when, HoopStairs x, int size, int speed, int lean, int wobble) {
        due(when + ", size", x.ofHoop(0), size);
        due(when + ", speed", x.ofHoop(1), speed);
        due(when + ", lean", x.ofHoop(2), lean + 500);
        due(when + ", wobble", x.ofHoop(3), wobble);
    }

    private static void hoopAtItsEnds() {
        HoopStairs x = Check.stairOf("d9 d9 d9");
        x.set(HoopStairs.SHAKE, 20);
        x.hoop(1);
        hoopIs("at first", x, 1, 10, 0, 0);
        x.roll(1);
        hoopIs("behind a drop", x, 1, 46, 24, 99);
        x.roll(1);
        hoopIs("behind two", x, 1, 82, 0, 99);
        x.roll(1);
        hoopIs("behind three", x, 1, 99, 24, 99);
        x.hoop(60);
        hoopIs("the next", x, 60, 10, 0, 0);
        HoopStairs slow = Worlds.rolling("l9");
        slow.roll(1);
        hoopIs("when it stopped", slow, 9, 0, 0, 0);
    }

    private static void placeOfTheHoop() {
        HoopStairs x = Worlds.manyOf(20, "g9");
        x.hoop(9);
        for (int next = 0; next < 20; next++) {
            due("the next", x.ofHoop(4), next);
            x.roll(1);
        }
        due("behind the last one", x.ofHoop(4), 20);
        HoopStairs bare = new HoopStairs();
        bare.hoop(9);
        due("without parts", bare.ofHoop(4), 0);
        bare.roll(1);
        due("behind none", bare.ofHoop(4), 0);
        String[] ends = {"d9", "g8", "l9"};
        for (int way = 1; way <= 3; way++) {
            for (int ahead : new int[] {0, 1, 4}) {
                HoopStairs over = Check.stairOf("g9 ".repeat(ahead) + ends[way - 1] + " g9");
                over.set(HoopStairs.TIP, 10);
                over.set(HoopStairs.SHAKE, 20);
                over.hoop(9);
                due("ends as " + way, over.roll(20), way);
                due("where it ended as " + way, over.ofHoop(4), ahead);
            }
        }
        HoopStairs last = Worlds.rolling("g9 g8");
        last.roll(20);
        due("stuck at the last one", last.ofHoop(4), 1);
    }

    private static void howTheRunIs() {
        due("0", Worlds.rolling("d1").ofHoop(5), 0);
        due("0 without parts", Worlds.rolling("").ofHoop(5), 0);
        for (int way = 1; way <= 4; way++) {
            due("" + way, Worlds.ended(way).ofHoop(5), way);
        }
    }

    private static void tapsAndPushesOfThisRun() {
        HoopStairs x = Worlds.rolling("d1 d1");
        due("no taps", x.ofHoop(6), 0);
        due("no pushes", x.ofHoop(7), 0);
        Worlds.taps(x, 60, 0);
        Worlds.taps(x, 60, 1);
        Worlds.pushes(x, 30);
        x.tap(2);
        due("all taps, not one that was refused", x.ofHoop(6), 120);
        due("all pushes, also when it is no faster", x.ofHoop(7), 30);
        x.roll(20);
        x.tap(0);
        x.push();
        due("none when it is over", x.ofHoop(6), 120);
        due("no push when it is over", x.ofHoop(7), 30);
        x.hoop(9);
        due("no taps in the next run", x.ofHoop(6), 0);
        due("no pushes in the next run", x.ofHoop(7), 0);
        due("no tap by looking for one that saves", x.saves(0) + x.ofHoop(6), 0);
    }

    private static void badWhatOfTheHoop() {
        for (HoopStairs x : new HoopStairs[] {new HoopStairs(), Worlds.rolling("d1"), Worlds.ended(4)}) {
            for (int what : new int[] {-1, 8, 9, LOWEST, HIGHEST}) {
                due("ofHoop(" + what + ")", x.ofHoop(what), BAD_VALUE);
            }
        }
        due("ofHoop(0)", Worlds.rolling("d1").ofHoop(0), 9);
        due("ofHoop(7)", Worlds.rolling("d1").ofHoop(7), 0);
    }

    private static void noHoop() {
        HoopStairs gone = Worlds.rolling("d1");
        gone.takeAway(0);
        HoopStairs undone = Worlds.rolling("d1");
        undone.undo();
        HoopStairs refused = new HoopStairs();
        refused.hoop(61);
        for (HoopStairs x : new HoopStairs[] {new HoopStairs(), Check.stairOf("d1"), gone, undone, refused}) {
            for (int what = 0; what < 8; what++) {
                due("ofHoop(" + what + ")", x.ofHoop(what), NONE);
            }
        }
        due("one that is over is one", Worlds.ended(2).ofHoop(0), 9);
    }

    // ---- run

    private static void theLatest10() {
        HoopStairs x = Check.stairOf("g60");
        for (int size = 1; size <= 25; size++) {
            x.hoop(size);
            x.roll(1);
            for (int rank = 0; rank < 10; rank++) {
                due("size at " + rank + " of " + size, x.run(rank, 0), rank < size ? size - rank : NO_SUCH);
            }
            due("no eleventh of " + size, x.run(10, 0), NO_SUCH);
        }
    }

    private static void rank0IsTheLatest() {
        HoopStairs x = Check.stairOf("g5");
        x.hoop(4);
        x.roll(1);
        due("the only one", x.run(0, 0), 4);
        x.hoop(6);
        due("one that rolls is none", x.run(0, 0), 4);
        x.roll(1);
        due("the latest", x.run(0, 0), 6);
        due("the one before", x.run(1, 0), 4);
        x.hoop(7);
        x.part(0, 0, 1);
        due("one that is gone is none", x.run(0, 0), 6);
        due("none ahead of the latest", x.run(-1, 0), NO_SUCH);
    }

    private static void runIs(String when, HoopStairs x, int size, int how, int place, int taps) {
        due(when + ", size", x.run(0, 0), size);
        due(when + ", how", x.run(0, 1), how);
        due(when + ", place", x.run(0, 2), place);
        due(when + ", taps", x.run(0, 3), taps);
    }

    private static void whatOfRuns() {
        for (int way = 1; way <= 4; way++) {
            runIs("over as " + way, Worlds.ended(way), 9, way, way == 4 ? 1 : 0, 1);
        }
        HoopStairs x = Worlds.manyOf(20, "g60");
        x.hoop(60);
        x.roll(20);
        runIs("behind twenty, without taps", x, 60, 4, 20, 0);
        x.takeAway(19);
        x.part(19, 2, 1);
        x.hoop(2);
        Worlds.taps(x, 3, 0);
        x.roll(20);
        runIs("stuck at 19", x, 2, 2, 19, 3);
        HoopStairs bare = new HoopStairs();
        bare.hoop(1);
        bare.tap(0);
        bare.push();
        bare.roll(1);
        runIs("without parts", bare, 1, 4, 0, 1);
    }

    private static void notSoManyRuns() {
        HoopStairs x = Check.stairOf("g60");
        for (int runs = 0; runs <= 12; runs++) {
            int told = Math.min(10, runs);
            for (int rank : new int[] {told, told + 1, 99, -1, LOWEST, HIGHEST}) {
                due("run(" + rank + ", 0) of " + runs, x.run(rank, 0), NO_SUCH);
            }
            if (runs > 0) {
                due("the last of " + runs, x.run(told - 1, 1), 4);
            }
            x.hoop(1);
            x.roll(1);
        }
    }

    private static void badWhatOfARun() {
        HoopStairs x = Worlds.ended(4);
        for (int what : new int[] {-1, 4, 5, LOWEST, HIGHEST}) {
            due("run(0, " + what + ")", x.run(0, what), BAD_VALUE);
        }
        due("run(0, 0)", x.run(0, 0), 9);
        due("run(0, 3)", x.run(0, 3), 1);
    }

    // ---- count

    private static void partsAndRuns() {
        HoopStairs x = new HoopStairs();
        due("no parts", x.count(0), 0);
        due("no runs", x.count(1), 0);
        for (int i = 1; i <= 20; i++) {
            x.part(0, 0, 1);
            x.hoop(1);
            due("parts", x.count(0), i);
            due("runs, those that are gone too", x.count(1), i);
        }
        x.part(0, 0, 1);
        x.hoop(0);
        due("twenty at most", x.count(0), 20);
        due("none that was refused", x.count(1), 20);
    }

    private static void endsSoFar() {
        for (int way = 1; way <= 4; way++) {
            HoopStairs x = Worlds.ended(way);
            for (int what = 2; what <= 5; what++) {
                due("over as " + way + ", count(" + what + ")", x.count(what), what == way + 1 ? 1 : 0);
            }
            for (int again = 2; again <= 15; again++) {
                x.hoop(9);
                x.tap(0);
                x.roll(1);
                due("more of them than are told, " + again, x.count(way + 1), again);
            }
            x.takeAway(0);
            due("so far, though the part is away", x.count(way + 1), 15);
        }
        HoopStairs rolling = Worlds.rolling("d1 d1");
        rolling.roll(1);
        rolling.hoop(9);
        due("one that did not end is none of them",
            rolling.count(2) + rolling.count(3) + rolling.count(4) + rolling.count(5), 0);
    }

    private static void narrowestGate() {
        due("without parts", new HoopStairs().count(6), 0);
        due("without gates", Check.stairOf("d1 l1").count(6), 0);
        due("1", Check.stairOf("g1").count(6), 1);
        due("99", Check.stairOf("g99").count(6), 99);
        due("the first", Check.stairOf("g5 g6 g7").count(6), 5);
        due("the last", Check.stairOf("g7 g6 g5").count(6), 5);
        due("between", Check.stairOf("g7 g5 g6").count(6), 5);
        due("two as narrow", Check.stairOf("g5 g5").count(6), 5);
        due("drops and landings are none", Check.stairOf("d1 g50 l1").count(6), 50);
        HoopStairs x = Worlds.manyOf(19, "g50");
        x.part(19, 2, 49);
        due("at 19", x.count(6), 49);
        x.takeAway(19);
        due("without it", x.count(6), 50);
    }

    private static void heightOfDrops() {
        due("without parts", new HoopStairs().count(7), 0);
        due("without drops", Check.stairOf("l9 g99").count(7), 0);
        due("one", Check.stairOf("d1").count(7), 1);
        due("the first and the last", Check.stairOf("d3 l9 g99 d4").count(7), 7);
        HoopStairs x = Worlds.manyOf(20, "d9");
        due("the most", x.count(7), 180);
        x.takeAway(19);
        due("one less", x.count(7), 171);
    }

    private static void lengthOfLandings() {
        due("without parts", new HoopStairs().count(8), 0);
        due("without landings", Check.stairOf("d9 g99").count(8), 0);
        due("one", Check.stairOf("l1").count(8), 1);
        due("the first and the last", Check.stairOf("l3 d9 g99 l4").count(8), 7);
        HoopStairs x = Worlds.manyOf(20, "l9");
        due("the most", x.count(8), 180);
        x.takeAway(0);
        due("one less", x.count(8), 171);
    }

    private static void tapsSoFar() {
        HoopStairs x = Check.stairOf("d1");
        due("none", x.count(9), 0);
        x.tap(0);
        due("none that was refused", x.count(9), 0);
        x.hoop(9);
        x.tap(2);
        Worlds.taps(x, 3, 0);
        due("three", x.count(9), 3);
        HoopStairs wide = Worlds.rolling("g8");
        due("none saves", wide.saves(0), NONE);
        due("not those that were looked for", wide.count(9), 0);
        x.hoop(9);
        Worlds.taps(x, 2, 1);
        due("of all runs", x.count(9), 5);
        x.takeAway(0);
        due("also of those that are gone", x.count(9), 5);
    }

    private static void settings() {
        HoopStairs x = new HoopStairs();
        int[] first = {45, 4, 3, 8}, least = {10, 0, 0, 1}, greatest = {99, 20, 20, 30};
        for (int setting = 0; setting < 4; setting++) {
            due("the first value of " + setting, x.count(10 + setting), first[setting]);
            x.set(setting, least[setting]);
            due("the least of " + setting, x.count(10 + setting), least[setting]);
            x.set(setting, greatest[setting]);
            due("the greatest of " + setting, x.count(10 + setting), greatest[setting]);
        }
    }

    private static void lengthOfThePad() {
        HoopStairs x = new HoopStairs();
        due("empty", x.count(14), 0);
        for (int length = 1; length <= 80; length++) {
            x.put('!');
            due("then", x.count(14), length);
        }
        x.put('!');
        due("full", x.count(14), 80);
        x.wipe();
        due("wiped", x.count(14), 0);
    }

    private static void changesToUndo() {
        HoopStairs x = new HoopStairs();
        due("none", x.count(15), 0);
        for (int changes = 1; changes <= 14; changes++) {
            x.set(0, 10 + changes);
            due("after " + changes, x.count(15), Math.min(6, changes));
        }
        for (int left = 5; left >= 0; left--) {
            x.undo();
            due("left", x.count(15), left);
        }
        x.undo();
        due("none is left", x.count(15), 0);
    }

    private static void badWhatOfCount() {
        HoopStairs x = Worlds.busy();
        for (int what : new int[] {-1, 16, 17, LOWEST, HIGHEST}) {
            due("count(" + what + ")", x.count(what), BAD_VALUE);
        }
        due("count(0)", x.count(0), 4);
        due("count(15)", x.count(15), 6);
    }
}
