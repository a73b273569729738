/** Promises 5 to 8 and 10 to 12: hoops, their runs, taps, pushes, and what is told of them. */
public final class RunTest {
    public static void main(String[] args) {
        hoopsBegin();
        drops();
        landings();
        gates();
        falls();
        theWaysInWhichARunEnds();
        rolling();
        taps();
        pushes();
        whatIsToldOfTheHoop();
        theLatestRuns();
        counts();
        Check.end();
    }

    private static void hoopIs(String when, HoopStairs x, int speed, int lean, int wobble) {
        Check.due(when + ", speed", x.ofHoop(1), speed);
        Check.due(when + ", lean", x.ofHoop(2), lean + 500);
        Check.due(when + ", wobble", x.ofHoop(3), wobble);
    }

    private static void hoopsBegin() {
        HoopStairs x = new HoopStairs();
        for (int size : new int[] {0, 61, -1, Integer.MIN_VALUE, Integer.MAX_VALUE}) {
            Check.due("5: hoop(" + size + ")", x.hoop(size), HoopStairs.BAD_VALUE);
        }
        Check.due("5: no hoop came", x.ofHoop(0), HoopStairs.NONE);
        Check.due("5: nothing was recorded", x.count(15), 0);
        Check.due("5: the least", x.hoop(1), 1);
        Check.due("5: the greatest", x.hoop(60), 2);
        Check.due("5: its size", x.ofHoop(0), 60);
        Check.due("5: it rolls without parts", x.ofHoop(5), 0);
        Check.due("5: changes", x.count(15), 2);
        Check.due("5: roll ends it", x.roll(1), 4);
        x = Check.stairOf("d9 d9 d9");
        x.hoop(5);
        x.tap(0);
        x.push();
        x.roll(2);
        Check.due("5: in place of one that rolls", x.hoop(6), 2);
        hoopIs("5: a new hoop", x, 10, 0, 0);
        int[] rest = {0, 0, 0, 0};
        for (int i = 0; i < 4; i++) {
            Check.due("5: a new hoop's " + (4 + i), x.ofHoop(4 + i), rest[i]);
        }
        Check.due("5: the one before did not end", x.run(0, 0), HoopStairs.NO_SUCH);
    }

    private static void drops() {
        HoopStairs x = Check.stairOf("d3 d9 d9 d9 d1");
        x.hoop(5);
        x.roll(1);
        hoopIs("behind d3 at 0", x, 22, 3, 12);
        x.roll(1);
        hoopIs("behind d9 at 1", x, 58, 3 - 12, 48);
        x.roll(1);
        hoopIs("behind d9 at 2", x, 94, -9 + 21, 84);
        x.roll(1);
        hoopIs("behind d9 at 3, at the most", x, 99, 12 - 24, 99);
        x.roll(1);
        hoopIs("behind d1 at 4", x, 99, -12 + 24, 99);
        HoopStairs calm = Check.stairOf("d9 d9");
        calm.set(1, 0);
        calm.hoop(5);
        calm.roll(1);
        hoopIs("without shaking", calm, 46, 0, 0);
    }

    private static void landings() {
        HoopStairs x = Check.stairOf("d9 l1 l3 l9");
        x.hoop(5);
        x.tap(1);
        x.roll(1);
        hoopIs("behind d9", x, 46, -8 + 9, 38);
        x.roll(1);
        hoopIs("behind l1, not beyond 0", x, 43, 0, 29);
        x.tap(1);
        hoopIs("tapped", x, 43, -8, 31);
        x.roll(1);
        hoopIs("behind l3, from below 0", x, 34, -8 + 2 + 1 + 1, 14);
        x.tap(0);
        x.tap(0);
        hoopIs("tapped twice", x, 34, 12, 18);
        Check.due("over the last landing", x.roll(1), 4);
        hoopIs("behind l9, from above 0", x, 7, 12 - 4, 3);
        leansNearerToTheMiddle();
        HoopStairs slow = Check.stairOf("l3 l1");
        slow.hoop(5);
        Check.due("rolls on with speed", slow.roll(1), 0);
        Check.due("its speed", slow.ofHoop(1), 1);
        Check.due("stops without", slow.roll(1), 3);
        Check.due("not below 0", slow.ofHoop(1), 0);
        Check.due("at the landing", slow.ofHoop(4), 1);
        HoopStairs smooth = Check.stairOf("l9 l9 l9");
        smooth.set(2, 0);
        smooth.hoop(5);
        Check.due("without drag it passes", smooth.roll(20), 4);
        Check.due("as fast as before", smooth.ofHoop(1), 10);
        HoopStairs braked = Check.stairOf("l9");
        braked.set(2, 20);
        braked.hoop(1);
        Check.due("stops early on a landing", braked.roll(1), 3);
    }

    /** Rolls hoops with leans about 0 over a landing, with a speed that rights them by less, as much, and more. */
    private static void leansNearerToTheMiddle() {
        int[][] behind = {{-3, -2, -1, 0, 1, 2, 3}, {-2, -1, 0, 0, 0, 1, 2}, {-1, 0, 0, 0, 0, 0, 1}};
        int[] pushes = {1, 3, 7};
        for (int way = 0; way < 3; way++) {
            for (int lean = -3; lean <= 3; lean++) {
                HoopStairs x = Check.stairOf("l1");
                x.set(3, 1);
                x.hoop(5);
                for (int i = 0; i < pushes[way]; i++) {
                    x.push();
                }
                for (int i = 0; i < Math.abs(lean); i++) {
                    x.tap(lean > 0 ? 0 : 1);
                }
                x.roll(1);
                Check.due("a lean of " + lean + " after " + pushes[way] + " pushes", x.ofHoop(2),
                    500 + behind[way][lean + 3]);
            }
        }
    }

    private static void gates() {
        HoopStairs x = Check.stairOf("d4 g34");
        x.hoop(30);
        Check.due("just passes", x.roll(20), 4);
        hoopIs("a gate changes nothing", x, 26, 4, 16);
        x.hoop(31);
        Check.due("is stuck", x.roll(20), 2);
        hoopIs("stuck as it came", x, 26, 4, 16);
        Check.due("stuck at the gate", x.ofHoop(4), 1);
        x.hoop(30);
        x.tap(0);
        x.tap(1);
        Check.due("a quarter of the wobble counts", x.roll(20), 2);
        x.hoop(30);
        x.tap(0);
        Check.due("rounded towards 0", x.roll(20), 4);
    }

    private static void falls() {
        HoopStairs x = Check.stairOf("d9 g99 l9");
        x.set(0, 10);
        x.set(3, 1);
        x.hoop(5);
        Check.due("below TIP", x.roll(1), 0);
        x.tap(0);
        Check.due("a tap makes none fall", x.ofHoop(5), 0);
        Check.due("at TIP, behind a gate", x.roll(1), 1);
        Check.due("it fell there", x.of(1, 2), 1);
        Check.due("its place", x.ofHoop(4), 1);
        x.set(3, 30);
        x.hoop(5);
        x.tap(1);
        Check.due("to the left, behind a drop", x.roll(9), 1);
        Check.due("its lean", x.ofHoop(2), 500 - 30 + 9);
        HoopStairs last = Check.stairOf("g60");
        last.set(3, 30);
        last.hoop(5);
        last.tap(1);
        last.tap(1);
        Check.due("at the last part, not behind it", last.roll(1), 1);
        Check.due("so its place is the part's", last.ofHoop(4), 0);
        Check.due("it did not pass", last.count(5), 0);
        HoopStairs both = Check.stairOf("g5 l9");
        both.set(3, 30);
        both.hoop(6);
        both.tap(0);
        both.tap(0);
        Check.due("stuck, not fallen, however it leans", both.roll(1), 2);
        both.takeAway(0);
        both.hoop(6);
        both.tap(0);
        both.tap(0);
        Check.due("stopped, not fallen, however it leans", both.roll(1), 3);
        HoopStairs saved = Check.stairOf("d9 d9 d9 l5");
        saved.set(0, 10);
        saved.hoop(5);
        for (int i = 0; i < 4; i++) {
            saved.push();
        }
        saved.tap(0);
        Check.due("falls behind a drop, whatever comes next", saved.roll(20), 1);
        HoopStairs righted = Check.stairOf("l1");
        righted.set(0, 10);
        righted.set(3, 10);
        righted.hoop(5);
        for (int i = 0; i < 5; i++) {
            righted.push();
        }
        righted.tap(0);
        Check.due("righted by the landing ahead of the look", righted.roll(1), 4);
    }

    private static void theWaysInWhichARunEnds() {
        HoopStairs x = Check.stairOf("g10 l2 l2");
        x.hoop(10);
        Check.due("0", x.roll(1), 0);
        Check.due("3", x.roll(20), 3);
        Check.due("3 is told", x.ofHoop(5), 3);
        x.hoop(11);
        Check.due("2", x.roll(20), 2);
        x.set(0, 10);
        x.set(3, 10);
        x.hoop(1);
        x.tap(1);
        Check.due("1", x.roll(20), 1);
        x.set(2, 1);
        x.hoop(10);
        Check.due("4", x.roll(3), 4);
        Check.due("4's place", x.ofHoop(4), 3);
        for (int what = 2; what <= 5; what++) {
            Check.due("12: one each, " + what, x.count(what), 1);
        }
        for (int i = 0; i < 3; i++) {
            Check.due("6: a run that is over does not roll", x.roll(1), HoopStairs.NOT_POSSIBLE);
        }
    }

    private static void rolling() {
        HoopStairs x = Check.stairOf("d1 d1 d1 d1 d1");
        Check.due("6: no hoop", x.roll(1), HoopStairs.NOT_POSSIBLE);
        for (int parts : new int[] {0, 21, -1, Integer.MIN_VALUE, Integer.MAX_VALUE}) {
            Check.due("6: roll(" + parts + ") ahead of no hoop", x.roll(parts), HoopStairs.BAD_VALUE);
        }
        x.hoop(1);
        Check.due("6: refused ones record nothing", x.count(15), 6);
        Check.due("6: one part", x.roll(1), 0);
        Check.due("6: then", x.ofHoop(4), 1);
        Check.due("6: three parts", x.roll(3), 0);
        Check.due("6: then", x.ofHoop(4), 4);
        Check.due("6: the last", x.roll(1), 4);
        Check.due("6: behind it", x.ofHoop(4), 5);
        HoopStairs full = Check.stairOf("d1 d1 d1 d1 d1 d1 d1 d1 d1 d1 d1 d1 d1 d1 d1 d1 d1 d1 d1 d1");
        full.hoop(1);
        Check.due("6: over twenty", full.roll(20), 4);
        full.hoop(1);
        Check.due("6: over nineteen", full.roll(19), 0);
        Check.due("6: next is the last", full.ofHoop(4), 19);
    }

    private static void taps() {
        HoopStairs x = Check.stairOf("d1");
        Check.due("7: no hoop", x.tap(0), HoopStairs.NOT_POSSIBLE);
        for (int from : new int[] {-1, 2, Integer.MIN_VALUE, Integer.MAX_VALUE}) {
            Check.due("7: tap(" + from + ") ahead of no hoop", x.tap(from), HoopStairs.BAD_VALUE);
        }
        Check.due("7: nothing recorded", x.count(15), 1);
        x.hoop(1);
        Check.due("7: from the left", x.tap(0), 508);
        Check.due("7: from the right", x.tap(1), 500);
        Check.due("7: from the right again", x.tap(1), 492);
        Check.due("7: its wobble", x.ofHoop(3), 6);
        Check.due("7: taps in this run", x.ofHoop(6), 3);
        Check.due("7: changes", x.count(15), 5);
        x.set(3, 30);
        for (int i = 1; i <= 20; i++) {
            Check.due("7: the lean, just so, tap " + i, x.tap(1), 492 - 30 * i);
        }
        Check.due("7: below 0 is no error and told again", x.ofHoop(2), 492 - 600);
        for (int i = 0; i < 40; i++) {
            x.tap(0);
        }
        Check.due("7: wobble 99 at most", x.ofHoop(3), 99);
        Check.due("7: still rolls", x.ofHoop(5), 0);
        Check.due("7: falls behind the part", x.roll(1), 1);
        Check.due("7: over", x.tap(0), HoopStairs.NOT_POSSIBLE);
    }

    private static void pushes() {
        HoopStairs x = new HoopStairs();
        Check.due("8: no hoop", x.push(), HoopStairs.NOT_POSSIBLE);
        x.hoop(1);
        for (int speed = 15; speed <= 95; speed += 5) {
            Check.due("8: push", x.push(), speed);
        }
        Check.due("8: 99 at most", x.push(), 99);
        Check.due("8: and stays", x.push(), 99);
        Check.due("8: pushes in this run", x.ofHoop(7), 19);
        Check.due("8: no taps", x.ofHoop(6), 0);
        hoopIs("8: nothing else changes", x, 99, 0, 0);
        Check.due("8: a change", x.count(15), 6);
        x.roll(1);
        Check.due("8: over", x.push(), HoopStairs.NOT_POSSIBLE);
    }

    private static void whatIsToldOfTheHoop() {
        HoopStairs x = Check.stairOf("d9 d9 g99");
        for (int what : new int[] {-1, 8, Integer.MIN_VALUE, Integer.MAX_VALUE}) {
            Check.due("10: ofHoop(" + what + ") ahead of none", x.ofHoop(what), HoopStairs.BAD_VALUE);
        }
        for (int what = 0; what < 8; what++) {
            Check.due("10: none, " + what, x.ofHoop(what), HoopStairs.NONE);
        }
        x.hoop(42);
        x.tap(0);
        x.tap(0);
        x.push();
        x.push();
        x.push();
        x.roll(2);
        int[] wanted = {42, 97, 500 + 16 + 10 - 19, 76, 2, 0, 2, 3};
        for (int what = 0; what < 8; what++) {
            Check.due("10: ofHoop(" + what + ")", x.ofHoop(what), wanted[what]);
        }
        Check.due("10: what is too high", x.ofHoop(8), HoopStairs.BAD_VALUE);
    }

    private static void theLatestRuns() {
        HoopStairs x = Check.stairOf("g10");
        Check.due("11: none", x.run(0, 0), HoopStairs.NO_SUCH);
        Check.due("11: none ahead of a bad what", x.run(0, 4), HoopStairs.NO_SUCH);
        for (int size = 1; size <= 12; size++) {
            x.hoop(size);
            for (int tap = 0; tap < size % 3; tap++) {
                x.tap(tap);
            }
            Check.due("11: a run that goes on is none, " + size, x.run(size - 1, 0), HoopStairs.NO_SUCH);
            x.roll(1);
            Check.due("11: the latest size", x.run(0, 0), size);
            Check.due("11: how it ended", x.run(0, 1), size > 10 ? 2 : 4);
            Check.due("11: its place", x.run(0, 2), size > 10 ? 0 : 1);
            Check.due("11: its taps", x.run(0, 3), size % 3);
            Check.due("11: the earliest of ten", x.run(Math.min(9, size - 1), 0), Math.max(1, size - 9));
        }
        Check.due("11: only ten", x.run(10, 0), HoopStairs.NO_SUCH);
        Check.due("11: below 0", x.run(-1, 0), HoopStairs.NO_SUCH);
        Check.due("11: far off", x.run(Integer.MAX_VALUE, 0), HoopStairs.NO_SUCH);
        Check.due("11: what too high", x.run(9, 4), HoopStairs.BAD_VALUE);
        Check.due("11: what too low", x.run(0, -1), HoopStairs.BAD_VALUE);
        for (int rank = 0; rank < 10; rank++) {
            int size = 12 - rank;
            Check.due("11: size at " + rank, x.run(rank, 0), size);
            Check.due("11: ending at " + rank, x.run(rank, 1), size > 10 ? 2 : 4);
            Check.due("11: taps at " + rank, x.run(rank, 3), size % 3);
        }
    }

    private static void counts() {
        HoopStairs x = Check.stairOf("g30 d3 l2 g20 d4 l5 g25");
        x.hoop(50);
        x.tap(0);
        x.roll(1);
        x.hoop(1);
        x.tap(1);
        x.tap(0);
        x.roll(20);
        x.hoop(2);
        Check.putText(x, "d1;d2");
        int[] wanted = {7, 3, 0, 1, 0, 1, 20, 7, 7, 3, 45, 4, 3, 8, 5, 6};
        for (int what = 0; what < wanted.length; what++) {
            Check.due("12: count(" + what + ")", x.count(what), wanted[what]);
        }
        for (int what : new int[] {-1, 16, Integer.MIN_VALUE, Integer.MAX_VALUE}) {
            Check.due("12: count(" + what + ")", x.count(what), HoopStairs.BAD_VALUE);
        }
        x.takeAway(3);
        Check.due("12: the narrowest that is left", x.count(6), 25);
        x.takeAway(5);
        x.takeAway(0);
        Check.due("12: no gate", x.count(6), 0);
        Check.due("12: so far, also when runs are gone", x.count(1), 3);
        Check.due("12: taps so far stay too", x.count(9), 3);
        Check.due("12: a gate at 0", Check.stairOf("g3 g4").count(6), 3);
        Check.due("12: a drop at 0", Check.stairOf("d3 l4").count(7), 3);
        Check.due("12: a landing at 0", Check.stairOf("l3 d4").count(8), 3);
    }
}
