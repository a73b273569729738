/** Promises 21 to 23: undo, and saved states. */
public final class UndoTest {
    public static void main(String[] args) {
        sixAtMost();
        eachChangeIsUndone();
        eachWayToEndIsUndone();
        whatUndoLeaves();
        errorsRecordNothing();
        saving();
        restoring();
        slotsAndHistory();
        Check.end();
    }

    private static void sixAtMost() {
        HoopStairs x = new HoopStairs();
        Check.due("21: nothing", x.undo(), HoopStairs.NOT_POSSIBLE);
        for (int i = 1; i <= 9; i++) {
            x.set(0, 10 + i);
            Check.due("21: recorded", x.count(15), Math.min(6, i));
        }
        for (int i = 5; i >= 0; i--) {
            Check.due("21: left", x.undo(), i);
            Check.due("21: the value then", x.count(10), 10 + 3 + i);
        }
        Check.due("21: the oldest were dropped", x.undo(), HoopStairs.NOT_POSSIBLE);
        Check.due("21: the value stays", x.count(10), 13);
        x.set(0, 77);
        x.set(0, 78);
        Check.due("21: recorded anew", x.undo(), 1);
        Check.due("21: the value before", x.count(10), 77);
        x.set(0, 79);
        Check.due("21: an undo is no change", x.count(15), 2);
        x.undo();
        Check.due("21: so it goes back as if nothing had been", x.count(10), 77);
    }

    private static void eachChangeIsUndone() {
        undone("set", x -> x.set(1, 9), 4);
        undone("part", x -> x.part(1, 1, 4), 3);
        undone("takeAway", x -> x.takeAway(0), 1);
        undone("hoop", x -> x.hoop(9), 2);
        undone("roll", x -> x.roll(1), 2);
        undone("tap", x -> x.tap(0), 511);
        undone("push", HoopStairs::push, 27);
        undone("carryOut", HoopStairs::carryOut, 5);
        HoopStairs x = aheadOfAGate();
        int[] saved = told(x);
        x.save(0);
        x.takeAway(0);
        int[] later = told(x);
        x.restore(0);
        same("23: restored", told(x), saved);
        Check.due("21: restore undone", x.undo(), 5);
        same("21: restore undone", told(x), later);
    }

    private static HoopStairs aheadOfAGate() {
        HoopStairs x = Check.stairOf("d3 g20");
        x.hoop(21);
        x.roll(1);
        Check.putText(x, "<;!;r;d5;h3");
        return x;
    }

    private static void undone(String change, Worlds.Call call, int answer) {
        HoopStairs x = aheadOfAGate();
        int[] wanted = told(x);
        int possible = x.count(15);
        Check.due("21: " + change, call.on(x), answer);
        Check.due("21: " + change + " undone", x.undo(), possible);
        same("21: " + change + " undone", told(x), wanted);
    }

    private static void eachWayToEndIsUndone() {
        String[] stairs = {"d9", "g1", "l9", "d1"};
        for (int way = 1; way <= 4; way++) {
            HoopStairs x = Check.stairOf(stairs[way - 1]);
            x.set(0, way == 1 ? 10 : 45);
            x.hoop(9);
            x.tap(0);
            Check.due("21: ends as " + way, x.roll(1), way);
            Check.due("21: counted, " + way, x.count(way + 1), 1);
            x.undo();
            Check.due("21: not counted any more, " + way, x.count(way + 1), 0);
            Check.due("21: rolls again, " + way, x.ofHoop(5), 0);
            Check.due("21: ends as before, " + way, x.roll(1), way);
        }
    }

    private static void whatUndoLeaves() {
        HoopStairs x = new HoopStairs();
        x.part(0, 0, 5);
        Check.putText(x, "d1;d2");
        x.undo();
        Check.due("21: the pad stays", x.count(14), 5);
        Check.due("21: the part goes", x.count(0), 0);
        x.part(0, 0, 5);
        x.save(1);
        x.undo();
        Check.due("21: the slot stays", x.restore(1), 1);
        Check.due("21: with its part", x.of(0, 1), 5);
        HoopStairs same = Check.stairOf("l9 d1");
        same.hoop(4);
        same.roll(20);
        same.takeAway(0);
        same.undo();
        Check.due("21: counts of parts come back", same.of(0, 4), 1);
        Check.due("21: the hoop comes back", same.ofHoop(5), 3);
        same.undo();
        Check.due("21: the run that was over goes", same.run(0, 0), HoopStairs.NO_SUCH);
        Check.due("21: it rolls again", same.ofHoop(5), 0);
        same.undo();
        Check.due("21: no hoop, as before it", same.ofHoop(5), HoopStairs.NONE);
        Check.due("21: runs so far", same.count(1), 0);
    }

    private static void errorsRecordNothing() {
        HoopStairs x = Check.stairOf("d1");
        x.set(9, 9);
        x.part(9, 0, 1);
        x.takeAway(9);
        x.hoop(0);
        x.roll(1);
        x.tap(0);
        x.push();
        x.carryOut();
        x.restore(0);
        x.restore(2);
        x.save(0);
        x.put('d');
        x.wipe();
        x.fault();
        Check.due("21: only the part", x.count(15), 1);
        Check.putText(x, "d0");
        Check.due("20: none is carried out", x.carryOut(), 0);
        Check.due("21: a change, though nothing is different", x.count(15), 2);
        x.set(0, 45);
        Check.due("21: the same value is a change", x.count(15), 3);
    }

    private static void saving() {
        HoopStairs x = new HoopStairs();
        for (int slot : new int[] {-1, 2, Integer.MIN_VALUE, Integer.MAX_VALUE}) {
            Check.due("22: save(" + slot + ")", x.save(slot), HoopStairs.BAD_VALUE);
            Check.due("23: restore(" + slot + ")", x.restore(slot), HoopStairs.BAD_VALUE);
        }
        Check.due("22: without parts", x.save(0), 0);
        x.part(0, 0, 1);
        x.part(1, 0, 2);
        Check.due("22: two parts", x.save(1), 2);
        Check.due("22: no change", x.count(15), 2);
        x.part(2, 0, 3);
        Check.due("22: what is saved does not follow", x.restore(1), 2);
        Check.due("22: overwrites", x.save(0), 2);
        Check.due("22: what was saved last", x.restore(0), 2);
    }

    private static void restoring() {
        HoopStairs x = Check.stairOf("g20 d3 l9");
        Check.due("23: nothing was saved", x.restore(0), HoopStairs.NOT_POSSIBLE);
        x.set(3, 9);
        x.hoop(20);
        x.tap(1);
        x.roll(2);
        x.hoop(21);
        x.roll(2);
        x.hoop(7);
        x.tap(1);
        x.push();
        x.roll(1);
        int[] saved = told(x);
        Check.due("22: three parts", x.save(1), 3);
        x.roll(20);
        x.set(3, 10);
        x.part(0, 2, 5);
        x.hoop(1);
        Check.putText(x, "d1");
        Check.due("23: the other slot is empty", x.restore(0), HoopStairs.NOT_POSSIBLE);
        Check.due("23: three parts", x.restore(1), 3);
        same("23: all as it was", told(x), saved);
        Check.due("23: but for the pad", x.count(14), 2);
        x.roll(20);
        x.takeAway(0);
        Check.due("23: it keeps it", x.restore(1), 3);
        same("23: again as it was", told(x), saved);
    }

    private static void slotsAndHistory() {
        HoopStairs x = new HoopStairs();
        x.set(0, 50);
        x.save(0);
        x.set(0, 51);
        x.save(1);
        x.set(0, 52);
        Check.due("23: a change", x.count(15), 3);
        x.restore(0);
        Check.due("23: recorded", x.count(15), 4);
        Check.due("23: the value of slot 0", x.count(10), 50);
        x.restore(1);
        Check.due("23: the value of slot 1", x.count(10), 51);
        Check.due("23: the history is not restored", x.undo(), 4);
        Check.due("21: before the second", x.count(10), 50);
        Check.due("21: one more", x.undo(), 3);
        Check.due("21: before the first", x.count(10), 52);
        x.undo();
        x.save(0);
        x.undo();
        Check.due("21: before that", x.count(10), 50);
        x.restore(0);
        Check.due("22: saved when it was 51", x.count(10), 51);
    }

    private static void same(String when, int[] got, int[] wanted) {
        for (int i = 0; i < wanted.length; i++) {
            Check.due(when + ", " + i, got[i], wanted[i]);
        }
    }

    /** All that can be asked, but for the pad and the history. */
    private static int[] told(HoopStairs x) {
        int[] all = new int[8 + 14 + 20 + 12];
        int at = 0;
        for (int what = 0; what < 8; what++) {
            all[at++] = x.ofHoop(what);
        }
        for (int what = 0; what < 14; what++) {
            all[at++] = x.count(what);
        }
        for (int place = 0; place < 4; place++) {
            for (int what = 0; what < 5; what++) {
                all[at++] = x.of(place, what);
            }
        }
        for (int rank = 0; rank < 3; rank++) {
            for (int what = 0; what < 4; what++) {
                all[at++] = x.run(rank, what);
            }
        }
        return all;
    }
}
