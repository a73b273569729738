/** Promises 13 to 16: what would be, with nothing changed by asking. */
public final class WhatIfTest {
    public static void main(String[] args) {
        ifRolledTellsTheEnd();
        ifRolledTellsTheGreatestLean();
        theWidest();
        tapsThatSave();
        traces();
        askingChangesNothing();
        Check.end();
    }

    private static void rolledIs(String when, HoopStairs x, int how, int place, int speed, int lean) {
        Check.due("13: " + when + ", how", x.ifRolled(0), how);
        Check.due("13: " + when + ", place", x.ifRolled(1), place);
        Check.due("13: " + when + ", speed", x.ifRolled(2), speed);
        Check.due("13: " + when + ", lean", x.ifRolled(3), lean);
    }

    private static void ifRolledTellsTheEnd() {
        HoopStairs x = Check.stairOf("d3 l2 d4 g30 l9");
        for (int what : new int[] {-1, 4, Integer.MIN_VALUE, Integer.MAX_VALUE}) {
            Check.due("13: ifRolled(" + what + ") ahead of no hoop", x.ifRolled(what), HoopStairs.BAD_VALUE);
        }
        Check.due("13: no hoop", x.ifRolled(0), HoopStairs.NOT_POSSIBLE);
        x.hoop(20);
        rolledIs("passes", x, 4, 5, 5, 8);
        x.roll(3);
        rolledIs("passes from the third on", x, 4, 5, 5, 8);
        x.hoop(26);
        rolledIs("is stuck", x, 2, 3, 32, 8);
        x.set(2, 4);
        x.hoop(20);
        rolledIs("stops", x, 3, 4, 0, 8);
        x.set(0, 10);
        x.tap(0);
        rolledIs("falls", x, 1, 0, 22, 11);
        x.roll(20);
        Check.due("13: over", x.ifRolled(0), HoopStairs.NOT_POSSIBLE);
    }

    private static void ifRolledTellsTheGreatestLean() {
        HoopStairs x = Check.stairOf("g5 g4");
        x.hoop(5);
        x.tap(1);
        rolledIs("behind the part ahead of that at which it is stuck", x, 2, 1, 10, 8);
        x.roll(1);
        rolledIs("none but the one at which it is stuck", x, 2, 1, 10, 0);
        HoopStairs stops = Check.stairOf("l9");
        stops.hoop(5);
        stops.tap(1);
        rolledIs("none but the one at which it stops", stops, 3, 0, 0, 0);
        HoopStairs bare = new HoopStairs();
        bare.hoop(5);
        bare.tap(1);
        rolledIs("no part at all", bare, 4, 0, 10, 0);
        HoopStairs left = Check.stairOf("d1 d9 d1");
        left.hoop(5);
        rolledIs("the greatest is to the left", left, 4, 3, 54, 9);
        left.roll(2);
        rolledIs("what was before does not count", left, 4, 3, 54, 2);
    }

    private static void theWidest() {
        Check.due("14: without parts", new HoopStairs().widest(), 60);
        Check.due("14: a wide gate", Check.stairOf("g99").widest(), 60);
        Check.due("14: just the greatest", Check.stairOf("g60").widest(), 60);
        Check.due("14: one less", Check.stairOf("g59").widest(), 59);
        Check.due("14: the least", Check.stairOf("g40 g1").widest(), 1);
        Check.due("14: less the wobble", Check.stairOf("g40 d4 g12").widest(), 8);
        Check.due("14: too narrow for its wobble", Check.stairOf("d4 g4").widest(), HoopStairs.NONE);
        Check.due("14: all stop", Check.stairOf("l9 g40").widest(), HoopStairs.NONE);
        HoopStairs x = Check.stairOf("d9 d9 g40");
        x.set(1, 20);
        x.set(0, 10);
        Check.due("14: all fall", x.widest(), HoopStairs.NONE);
        x.set(0, 99);
        x.hoop(7);
        x.tap(0);
        x.push();
        Check.due("14: the hoop that rolls does not count", x.widest(), 16);
    }

    private static void tapsThatSave() {
        HoopStairs x = Check.stairOf("d9 d1 d9 g60");
        x.set(0, 11);
        for (int from : new int[] {-1, 2, Integer.MIN_VALUE, Integer.MAX_VALUE}) {
            Check.due("15: saves(" + from + ") ahead of no hoop", x.saves(from), HoopStairs.BAD_VALUE);
        }
        Check.due("15: no hoop", x.saves(0), HoopStairs.NOT_POSSIBLE);
        x.hoop(5);
        Check.due("15: it would fall", x.ifRolled(0), 1);
        Check.due("15: from the left", x.saves(0), HoopStairs.NONE);
        Check.due("15: from the right", x.saves(1), 1);
        x.tap(1);
        Check.due("15: none more then", x.saves(1), 0);
        Check.due("15: none from the other side either", x.saves(0), 0);
        x.roll(20);
        Check.due("15: over", x.saves(0), HoopStairs.NOT_POSSIBLE);
        HoopStairs many = Check.stairOf("l1");
        many.set(2, 0);
        many.set(0, 99);
        many.set(3, 5);
        many.hoop(5);
        for (int i = 0; i < 39; i++) {
            many.tap(1);
        }
        Check.due("15: 195 to the left, 20 from the left bring it to 95", many.saves(0), 20);
        many.tap(1);
        Check.due("15: 21 are too many", many.saves(0), HoopStairs.NONE);
        Check.due("15: from the wrong side", many.saves(1), HoopStairs.NONE);
        HoopStairs shaken = Check.stairOf("g9");
        shaken.set(0, 10);
        shaken.hoop(9);
        shaken.tap(0);
        shaken.set(3, 2);
        Check.due("15: none is wanted", shaken.saves(1), 0);
        shaken.set(3, 9);
        shaken.tap(0);
        shaken.set(3, 2);
        Check.due("15: a tap shakes it so that the gate is too narrow", shaken.saves(1), HoopStairs.NONE);
        HoopStairs wobbly = Check.stairOf("g10");
        wobbly.set(0, 10);
        wobbly.set(3, 9);
        wobbly.hoop(9);
        wobbly.tap(0);
        wobbly.tap(0);
        wobbly.set(3, 4);
        Check.due("15: taps of 4 bring it below TIP too late for the gate", wobbly.saves(1), HoopStairs.NONE);
        wobbly.set(3, 10);
        Check.due("15: one tap, with wobble 6", wobbly.saves(1), 1);
        HoopStairs bare = new HoopStairs();
        bare.hoop(60);
        Check.due("15: without parts", bare.saves(1), 0);
    }

    private static void traces() {
        HoopStairs x = Check.stairOf("d3 l2 d4 g30 l9");
        int[][] wanted = {{22, 503, 12}, {16, 503, 7}, {32, 508, 23}, {32, 508, 23}, {5, 504, 3}};
        for (int place = 0; place < 5; place++) {
            for (int what = 0; what < 3; what++) {
                Check.due("16: traced(10, " + place + ", " + what + ")", x.traced(10, place, what),
                    wanted[place][what]);
            }
        }
        Check.due("16: ahead of the gate at which it is stuck", x.traced(26, 2, 0), 32);
        Check.due("16: at it", x.traced(26, 3, 0), HoopStairs.NONE);
        Check.due("16: behind it", x.traced(26, 4, 0), HoopStairs.NONE);
        Check.due("16: the widest passes", x.traced(25, 4, 0), 5);
        for (int place : new int[] {-1, 5, Integer.MIN_VALUE, Integer.MAX_VALUE}) {
            Check.due("16: no part " + place, x.traced(10, place, 0), HoopStairs.NO_SUCH);
            Check.due("16: ahead of a bad size, " + place, x.traced(0, place, 3), HoopStairs.NO_SUCH);
        }
        for (int size : new int[] {0, 61, Integer.MIN_VALUE, Integer.MAX_VALUE}) {
            Check.due("16: size " + size, x.traced(size, 0, 0), HoopStairs.BAD_VALUE);
        }
        for (int what : new int[] {-1, 3, Integer.MIN_VALUE, Integer.MAX_VALUE}) {
            Check.due("16: what " + what, x.traced(1, 0, what), HoopStairs.BAD_VALUE);
            Check.due("16: what ahead of none, " + what, x.traced(60, 4, what), HoopStairs.BAD_VALUE);
        }
        Check.due("16: the least size", x.traced(1, 4, 0), 5);
        x.set(2, 4);
        Check.due("16: ahead of where it stops", x.traced(10, 3, 1), 508);
        Check.due("16: where it stops", x.traced(10, 4, 1), HoopStairs.NONE);
        x.set(2, 3);
        x.hoop(60);
        x.tap(0);
        x.push();
        Check.due("16: the hoop that rolls does not count", x.traced(10, 0, 1), 503);
        HoopStairs falls = Check.stairOf("d9 d9 g60");
        falls.set(0, 10);
        falls.set(1, 5);
        Check.due("16: where it falls", falls.traced(1, 0, 0), HoopStairs.NONE);
        falls.set(1, 4);
        Check.due("16: at the left", falls.traced(1, 1, 1), 500 + 9 - 18);
        HoopStairs left = Check.stairOf("g60 d9");
        Check.due("16: left of the middle, behind the last", left.traced(60, 1, 1), 491);
    }

    private static void askingChangesNothing() {
        HoopStairs x = Check.stairOf("d3 l2 g30 d9");
        x.hoop(20);
        x.tap(0);
        x.roll(1);
        int[] before = told(x);
        for (int what = 0; what < 4; what++) {
            x.ifRolled(what);
        }
        x.widest();
        x.saves(0);
        x.saves(1);
        x.traced(60, 3, 0);
        x.traced(10, 1, 1);
        int[] after = told(x);
        for (int i = 0; i < before.length; i++) {
            Check.due("13 to 16: unchanged, " + i, after[i], before[i]);
        }
    }

    private static int[] told(HoopStairs x) {
        int[] all = new int[8 + 16 + 20 + 1];
        int at = 0;
        for (int what = 0; what < 8; what++) {
            all[at++] = x.ofHoop(what);
        }
        for (int what = 0; what < 16; what++) {
            all[at++] = x.count(what);
        }
        for (int place = 0; place < 4; place++) {
            for (int what = 0; what < 5; what++) {
                all[at++] = x.of(place, what);
            }
        }
        all[at] = x.run(0, 0);
        return all;
    }
}
