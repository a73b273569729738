import java.util.ArrayList;
import java.util.List;

/** The sentences of the promises 21 to 23 that name a boundary, each with its own test. */
public final class EdgeUndoTest {
    private static final int NO_SUCH = HoopStairs.NO_SUCH, BAD_VALUE = HoopStairs.BAD_VALUE,
        NOT_POSSIBLE = HoopStairs.NOT_POSSIBLE, NONE = HoopStairs.NONE;
    private static final int TIP = HoopStairs.TIP, SHAKE = HoopStairs.SHAKE;
    private static final int LOWEST = Integer.MIN_VALUE, HIGHEST = Integer.MAX_VALUE;

    public static void main(String[] args) {
        undo();
        saveAndRestore();
        Check.end();
    }

    private static void undo() {
        Sentence.under("Promise 21: undo");
        Sentence.says("Undoes the latest change", EdgeUndoTest::theLatest);
        Sentence.says("everything except the pad, the slots and the history is as it was before it",
            EdgeUndoTest::everythingIsAsBefore);
        Sentence.says("A history of at most 6 states is kept", EdgeUndoTest::atMost6);
        Sentence.says("each method that is a change, and returns no error, records the state before it",
            EdgeUndoTest::eachChangeIsRecorded);
        Sentence.says("(also if nothing is different then)", EdgeUndoTest::nothingDifferent);
        Sentence.says("when one more is recorded, the oldest one is dropped", EdgeUndoTest::theOldestIsDropped);
        Sentence.says("An order of a text records nothing by itself.", EdgeUndoTest::ordersRecordNothing);
        Sentence.says("Returns how many changes can be undone then", EdgeUndoTest::howManyThen);
        Sentence.says("NOT_POSSIBLE if there is none", EdgeUndoTest::nothingToUndo);
    }

    private static void saveAndRestore() {
        Sentence.under("Promise 22: save");
        Sentence.says("Saves everything except the pad, the history and the slots in a slot",
            EdgeUndoTest::everythingIsSaved);
        Sentence.says("and overwrites what was saved there", EdgeUndoTest::overwrites);
        Sentence.says("`slot`: 0 or 1", EdgeUndoTest::twoSlots);
        Sentence.says("Returns how many parts there are", EdgeUndoTest::partsSaved);
        Sentence.says("BAD_VALUE if there is no such slot", EdgeUndoTest::noSlotToSave);
        Sentence.under("Promise 23: restore");
        Sentence.says("Restores what was saved last in a slot, which keeps it.", EdgeUndoTest::keepsIt);
        Sentence.says("This is a change.", EdgeUndoTest::restoreIsAChange);
        Sentence.says("`slot`: 0 or 1", EdgeUndoTest::twoSlotsToRestore);
        Sentence.says("Returns how many parts there are then", EdgeUndoTest::partsRestored);
        Sentence.says("BAD_VALUE if there is no such slot", EdgeUndoTest::noSlotToRestore);
        Sentence.says("NOT_POSSIBLE if nothing was saved in it", EdgeUndoTest::nothingWasSaved);
    }

    private static void due(String call, int got, int want) {
        Check.due(call, got, want);
    }

    /** Every kind of change, each possible in a busy world. */
    private static List<Worlds.Call> changes() {
        List<Worlds.Call> all = new ArrayList<>();
        for (int setting = 0; setting < 4; setting++) {
            int one = setting;
            all.add(x -> x.set(one, 11));
        }
        all.add(x -> x.part(1, 1, 4));
        all.add(x -> x.takeAway(2));
        all.add(x -> x.hoop(60));
        all.add(x -> x.roll(20));
        all.add(x -> x.tap(0));
        all.add(HoopStairs::push);
        all.add(x -> x.restore(0));
        all.add(EdgeUndoTest::carriesOut);
        return all;
    }

    /** Leaves the pad as it was. */
    private static int carriesOut(HoopStairs x) {
        x.wipe();
        Check.putText(x, "<;r2;h5;d9;g9");
        int carried = x.carryOut();
        Check.putText(x, "h5;r2;");
        return carried;
    }

    // ---- undo

    private static void theLatest() {
        HoopStairs x = new HoopStairs();
        x.set(TIP, 50);
        x.set(SHAKE, 10);
        x.undo();
        due("the latest", x.count(11), 4);
        due("not the one before", x.count(10), 50);
        x.undo();
        due("then that one", x.count(10), 45);
        x.set(TIP, 60);
        x.set(TIP, 70);
        x.undo();
        x.set(TIP, 80);
        x.undo();
        due("what was undone is no more the latest", x.count(10), 60);
        x.undo();
        due("the first", x.count(10), 45);
    }

    private static void everythingIsAsBefore() {
        int change = 0;
        for (Worlds.Call one : changes()) {
            HoopStairs x = Worlds.busy();
            one.on(x);
            due("the change " + change, x.undo(), 5);
            Twins.tellTheSame("the change " + change + " undone", x, busyWithFiveStates());
            change++;
        }
        HoopStairs pad = new HoopStairs();
        pad.set(TIP, 50);
        Check.putText(pad, "d1;d2");
        pad.undo();
        due("except the pad", pad.count(14), 5);
        due("it can be carried out", pad.carryOut(), 2);
        pad.undo();
        due("it does not come back", pad.count(14), 0);
        HoopStairs slot = Check.stairOf("d1 d2");
        slot.save(0);
        slot.takeAway(0);
        slot.save(1);
        slot.undo();
        slot.undo();
        due("except the slot 0", slot.restore(0), 2);
        due("except the slot 1", slot.restore(1), 1);
        for (int way = 1; way <= 4; way++) {
            HoopStairs over = Worlds.ended(way);
            over.undo();
            due("an end as " + way + " is none any more", over.count(way + 1), 0);
            due("at its part, too, as " + way, over.of(0, 2) + over.of(0, 3) + over.of(0, 4), 0);
            due("it is not told, as " + way, over.run(0, 0), NO_SUCH);
            due("it rolls again, as " + way, over.ofHoop(5), 0);
        }
    }

    private static HoopStairs busyWithFiveStates() {
        HoopStairs x = Worlds.busy();
        x.set(TIP, 45);
        x.undo();
        return x;
    }

    private static void atMost6() {
        HoopStairs x = new HoopStairs();
        for (int change = 1; change <= 20; change++) {
            x.set(TIP, 10 + change);
            due("after " + change, x.count(15), Math.min(6, change));
        }
        for (int back = 1; back <= 6; back++) {
            due("back " + back, x.undo(), 6 - back);
            due("the value " + back, x.count(10), 30 - back);
        }
        due("no seventh", x.undo(), NOT_POSSIBLE);
        due("the value still", x.count(10), 24);
    }

    private static void eachChangeIsRecorded() {
        int change = 0;
        for (Worlds.Call one : changes()) {
            HoopStairs rolling = Worlds.busy();
            rolling.undo();
            rolling.undo();
            one.on(rolling);
            due("the change " + change, rolling.count(15), 5);
            change++;
        }
        HoopStairs x = Worlds.busy();
        for (int i = 0; i < 4; i++) {
            x.undo();
        }
        x.wipe();
        x.put('!');
        x.fault();
        x.save(0);
        x.save(1);
        x.widest();
        due("the others are no changes", x.count(15), 2);
        x.set(TIP, 9);
        x.part(9, 0, 1);
        x.takeAway(9);
        x.hoop(61);
        x.roll(21);
        x.tap(2);
        x.restore(2);
        x.put('!');
        x.carryOut();
        due("an error records nothing", x.count(15), 2);
    }

    private static void nothingDifferent() {
        HoopStairs x = new HoopStairs();
        x.set(TIP, 45);
        due("a setting as it was", x.count(15), 1);
        x.save(0);
        x.restore(0);
        due("restored as it was", x.count(15), 2);
        x.put('r');
        x.carryOut();
        due("no order carried out", x.count(15), 3);
        due("undone one by one", x.undo(), 2);
        due("the next", x.undo(), 1);
        due("the first", x.undo(), 0);
        due("no more", x.undo(), NOT_POSSIBLE);
    }

    private static void theOldestIsDropped() {
        for (int changes = 6; changes <= 20; changes++) {
            HoopStairs x = new HoopStairs();
            for (int change = 1; change <= changes; change++) {
                x.set(TIP, 10 + change);
            }
            for (int back = 0; back < 6; back++) {
                x.undo();
            }
            due("the oldest that is left of " + changes, x.count(10), changes == 6 ? 45 : 10 + changes - 6);
        }
        for (int undone = 1; undone <= 6; undone++) {
            HoopStairs x = new HoopStairs();
            for (int change = 1; change <= 9; change++) {
                x.set(TIP, 10 + change);
            }
            for (int back = 0; back < undone; back++) {
                x.undo();
            }
            for (int change = 1; change <= 3; change++) {
                x.set(TIP, 80 + change);
            }
            int kept = Math.min(6, 6 - undone + 3);
            due("kept, with " + undone + " undone", x.count(15), kept);
            for (int back = 0; back < kept; back++) {
                x.undo();
            }
            due("the oldest, with " + undone + " undone", x.count(10), undone < 3 ? 16 - undone : 13);
            due("none is older", x.undo(), NOT_POSSIBLE);
        }
    }

    private static void ordersRecordNothing() {
        HoopStairs x = new HoopStairs();
        x.set(TIP, 50);
        Check.putText(x, "d1;l1;g60;h5;<;>;!;r;r20");
        due("nine orders", x.carryOut(), 9);
        due("one state for all", x.count(15), 2);
        due("undone at once", x.undo(), 1);
        due("no part", x.count(0), 0);
        due("no run", x.count(1), 0);
        due("no tap", x.count(9), 0);
        due("the setting stays", x.count(10), 50);
        HoopStairs full = Worlds.rolling("g9");
        for (int i = 0; i < 6; i++) {
            full.set(TIP, 20 + i);
        }
        Check.putText(full, "!" + ";!".repeat(39));
        due("forty orders", full.carryOut(), 40);
        due("six states still", full.count(15), 6);
        for (int i = 0; i < 6; i++) {
            full.undo();
        }
        due("only one was dropped", full.count(10), 20);
    }

    private static void howManyThen() {
        HoopStairs x = new HoopStairs();
        for (int change = 0; change < 9; change++) {
            x.hoop(1);
        }
        for (int left = 5; left >= 0; left--) {
            due("left", x.undo(), left);
            due("counted", x.count(15), left);
        }
        x.hoop(1);
        due("the only one", x.undo(), 0);
    }

    private static void nothingToUndo() {
        HoopStairs x = new HoopStairs();
        due("of a new object", x.undo(), NOT_POSSIBLE);
        due("again", x.undo(), NOT_POSSIBLE);
        x.set(TIP, 9);
        x.put('!');
        x.save(0);
        due("without a change", x.undo(), NOT_POSSIBLE);
        x.set(TIP, 50);
        due("with one", x.undo(), 0);
        due("when it is undone", x.undo(), NOT_POSSIBLE);
        due("an undo is none itself", x.count(10), 45);
    }

    // ---- save, restore

    private static void everythingIsSaved() {
        HoopStairs x = Worlds.busy();
        x.save(1);
        x.set(TIP, 20);
        x.roll(20);
        x.hoop(50);
        x.tap(0);
        x.part(0, 0, 9);
        x.takeAway(3);
        x.hoop(3);
        x.restore(1);
        Twins.tellTheSame("restored", x, Worlds.busy());
        for (int way = 1; way <= 4; way++) {
            HoopStairs over = Worlds.ended(way);
            over.save(0);
            over.hoop(1);
            over.restore(0);
            due("a run that is over as " + way, over.ofHoop(5), way);
        }
        HoopStairs fresh = new HoopStairs();
        fresh.save(0);
        fresh.part(0, 0, 1);
        fresh.hoop(5);
        fresh.tap(1);
        fresh.roll(1);
        due("of a new object", fresh.restore(0), 0);
        due("no hoop", fresh.ofHoop(0), NONE);
        due("no run", fresh.run(0, 0), NO_SUCH);
        due("no runs, no ends, no taps", fresh.count(1) + fresh.count(5) + fresh.count(9), 0);
        HoopStairs pad = new HoopStairs();
        Check.putText(pad, "d1");
        pad.save(0);
        pad.put('?');
        pad.set(TIP, 50);
        pad.restore(0);
        due("except the pad", pad.count(14), 3);
        due("except the history", pad.count(15), 2);
        pad.set(TIP, 60);
        pad.save(1);
        pad.restore(0);
        due("not in the other slot", pad.count(10), 45);
        pad.restore(1);
        due("except the slots", pad.count(10), 60);
    }

    private static void overwrites() {
        HoopStairs x = new HoopStairs();
        for (int slot = 0; slot < 2; slot++) {
            for (int tip = 50; tip < 55; tip++) {
                x.set(TIP, tip);
                x.save(slot);
            }
            x.set(TIP, 20);
            x.restore(slot);
            due("the last in " + slot, x.count(10), 54);
        }
        HoopStairs full = Worlds.manyOf(20, "g9");
        full.save(0);
        full.takeAway(19);
        full.save(0);
        due("one part less", full.restore(0), 19);
        due("no part of before", full.of(19, 0), NO_SUCH);
        HoopStairs gone = Worlds.rolling("g9");
        gone.save(1);
        gone.takeAway(0);
        gone.save(1);
        gone.restore(1);
        due("no hoop of before", gone.ofHoop(0), NONE);
    }

    private static void twoSlots() {
        HoopStairs x = new HoopStairs();
        due("-1", x.save(-1), BAD_VALUE);
        due("2", x.save(2), BAD_VALUE);
        x.set(TIP, 50);
        due("0", x.save(0), 0);
        x.set(TIP, 51);
        due("1", x.save(1), 0);
        x.set(TIP, 52);
        x.restore(0);
        due("what is in 0", x.count(10), 50);
        x.restore(1);
        due("what is in 1", x.count(10), 51);
    }

    private static void partsSaved() {
        HoopStairs x = new HoopStairs();
        due("none", x.save(0), 0);
        for (int parts = 1; parts <= 20; parts++) {
            x.part(0, 0, 1);
            due("parts", x.save(parts % 2), parts);
        }
    }

    private static void noSlotToSave() {
        HoopStairs x = Check.stairOf("d1");
        for (int slot : new int[] {-1, 2, 3, LOWEST, HIGHEST}) {
            due("save(" + slot + ")", x.save(slot), BAD_VALUE);
        }
        due("nothing in 0", x.restore(0), NOT_POSSIBLE);
        due("nothing in 1", x.restore(1), NOT_POSSIBLE);
    }

    private static void keepsIt() {
        HoopStairs x = Worlds.busy();
        x.save(1);
        for (int again = 0; again < 3; again++) {
            x.roll(20);
            x.hoop(1);
            x.tap(0);
            x.part(0, 0, 9);
            x.set(TIP, 20);
            due("again " + again, x.restore(1), 4);
            Twins.tellTheSame("again " + again, x, Worlds.busy());
        }
        x.undo();
        due("also when it was undone", x.restore(1), 4);
        HoopStairs last = new HoopStairs();
        last.save(0);
        last.part(0, 0, 1);
        last.save(0);
        due("what was saved last", last.restore(0), 1);
    }

    private static void restoreIsAChange() {
        HoopStairs x = Check.stairOf("d1");
        x.save(0);
        x.part(0, 0, 2);
        due("before", x.count(15), 2);
        x.restore(0);
        due("recorded", x.count(15), 3);
        due("undone", x.undo(), 2);
        due("as before it", x.count(0), 2);
        x.restore(1);
        x.restore(2);
        due("refused it is none", x.count(15), 2);
        for (int i = 0; i < 9; i++) {
            x.restore(0);
        }
        due("six at most", x.count(15), 6);
    }

    private static void twoSlotsToRestore() {
        HoopStairs x = Check.stairOf("d1");
        x.save(0);
        x.part(0, 0, 1);
        x.save(1);
        due("-1", x.restore(-1), BAD_VALUE);
        due("0", x.restore(0), 1);
        due("1", x.restore(1), 2);
        due("2", x.restore(2), BAD_VALUE);
    }

    private static void partsRestored() {
        HoopStairs x = Worlds.manyOf(20, "d1");
        x.save(0);
        for (int i = 0; i < 20; i++) {
            x.takeAway(0);
        }
        x.save(1);
        due("twenty", x.restore(0), 20);
        due("counted", x.count(0), 20);
        due("the last one", x.of(19, 1), 1);
        due("none", x.restore(1), 0);
        due("counted then", x.count(0), 0);
    }

    private static void noSlotToRestore() {
        HoopStairs x = Check.stairOf("d1");
        x.save(0);
        x.save(1);
        for (int slot : new int[] {-1, 2, 3, LOWEST, HIGHEST}) {
            due("restore(" + slot + ")", x.restore(slot), BAD_VALUE);
        }
    }

    private static void nothingWasSaved() {
        HoopStairs x = new HoopStairs();
        due("0 of a new object", x.restore(0), NOT_POSSIBLE);
        due("1 of a new object", x.restore(1), NOT_POSSIBLE);
        x.save(1);
        due("0, when 1 was saved", x.restore(0), NOT_POSSIBLE);
        due("1, when it was saved", x.restore(1), 0);
        HoopStairs other = new HoopStairs();
        other.save(0);
        due("1, when 0 was saved", other.restore(1), NOT_POSSIBLE);
        other.save(2);
        due("1, when 2 was refused", other.restore(1), NOT_POSSIBLE);
        other.set(TIP, 50);
        other.undo();
        due("0, also when a change was undone", other.restore(0), 0);
    }
}
