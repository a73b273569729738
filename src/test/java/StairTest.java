/** Promises 1 to 4 and 9: a new object, settings, and the parts of the stair. */
public final class StairTest {
    private static final int[] LEAST = {10, 0, 0, 1}, GREATEST = {99, 20, 20, 30}, FIRST = {45, 4, 3, 8};

    public static void main(String[] args) {
        aNewObject();
        settings();
        partsComeIn();
        partsWronglyGiven();
        partsAreTakenAway();
        runsAreGoneWithChangesOfTheStair();
        whatIsToldOfParts();
        Check.end();
    }

    private static void aNewObject() {
        HoopStairs x = new HoopStairs();
        int[] counts = {0, 0, 0, 0, 0, 0, 0, 0, 0, 0, 45, 4, 3, 8, 0, 0};
        for (int what = 0; what < counts.length; what++) {
            Check.due("1: count(" + what + ")", x.count(what), counts[what]);
        }
        Check.due("1: no hoop", x.ofHoop(0), HoopStairs.NONE);
        Check.due("1: no part", x.of(0, 0), HoopStairs.NO_SUCH);
        Check.due("1: no run", x.run(0, 0), HoopStairs.NO_SUCH);
        Check.due("1: no fault but the end", x.fault(), 0);
        Check.due("1: nothing to undo", x.undo(), HoopStairs.NOT_POSSIBLE);
        Check.due("1: nothing saved in 0", x.restore(0), HoopStairs.NOT_POSSIBLE);
        Check.due("1: nothing saved in 1", x.restore(1), HoopStairs.NOT_POSSIBLE);
        HoopStairs other = new HoopStairs();
        other.part(0, 0, 1);
        other.set(0, 50);
        Check.due("1: objects share no parts", x.count(0), 0);
        Check.due("1: objects share no settings", x.count(10), 45);
    }

    private static void settings() {
        for (int setting = 0; setting < 4; setting++) {
            HoopStairs x = new HoopStairs();
            String call = "2: set(" + setting + ") ";
            Check.due(call + "too low", x.set(setting, LEAST[setting] - 1), HoopStairs.BAD_VALUE);
            Check.due(call + "too high", x.set(setting, GREATEST[setting] + 1), HoopStairs.BAD_VALUE);
            Check.due(call + "refused records nothing", x.count(15), 0);
            Check.due(call + "refused changes nothing", x.count(10 + setting), FIRST[setting]);
            Check.due(call + "the least", x.set(setting, LEAST[setting]), FIRST[setting]);
            Check.due(call + "then", x.count(10 + setting), LEAST[setting]);
            Check.due(call + "the greatest", x.set(setting, GREATEST[setting]), LEAST[setting]);
            Check.due(call + "the same", x.set(setting, GREATEST[setting]), GREATEST[setting]);
            Check.due(call + "is a change, the same too", x.count(15), 3);
            for (int other = 0; other < 4; other++) {
                if (other != setting) {
                    Check.due(call + "leaves " + other, x.count(10 + other), FIRST[other]);
                }
            }
        }
        HoopStairs x = new HoopStairs();
        for (int setting : new int[] {-1, 4, Integer.MIN_VALUE, Integer.MAX_VALUE}) {
            Check.due("2: set(" + setting + ", 10)", x.set(setting, 10), HoopStairs.BAD_VALUE);
        }
        Check.due("2: far too low", x.set(0, Integer.MIN_VALUE), HoopStairs.BAD_VALUE);
        Check.due("2: far too high", x.set(0, Integer.MAX_VALUE), HoopStairs.BAD_VALUE);
    }

    private static void partsComeIn() {
        HoopStairs x = new HoopStairs();
        Check.due("3: the first", x.part(0, 0, 5), 1);
        Check.due("3: at the end", x.part(1, 2, 99), 2);
        Check.due("3: at the beginning", x.part(0, 1, 9), 3);
        Check.due("3: between", x.part(1, 2, 1), 4);
        int[][] wanted = {{1, 9}, {2, 1}, {0, 5}, {2, 99}};
        for (int place = 0; place < 4; place++) {
            Check.due("3: kind at " + place, x.of(place, 0), wanted[place][0]);
            Check.due("3: value at " + place, x.of(place, 1), wanted[place][1]);
        }
        Check.due("3: four changes", x.count(15), 4);
    }

    private static void partsWronglyGiven() {
        HoopStairs x = Check.stairOf("d1 d2");
        int[] noPlaces = {-1, 3, 20, Integer.MIN_VALUE, Integer.MAX_VALUE};
        for (int place : noPlaces) {
            Check.due("3: no place " + place, x.part(place, 0, 1), HoopStairs.NO_SUCH);
            Check.due("3: no place ahead of a bad kind " + place, x.part(place, 3, 0), HoopStairs.NO_SUCH);
        }
        int[][] bad = {{-1, 1}, {3, 1}, {0, 0}, {0, 10}, {1, 0}, {1, 10}, {2, 0}, {2, 100}, {0, -1},
            {Integer.MAX_VALUE, 1}, {Integer.MIN_VALUE, 1}, {2, Integer.MAX_VALUE}, {1, Integer.MIN_VALUE}};
        for (int[] one : bad) {
            Check.due("3: part(2, " + one[0] + ", " + one[1] + ")", x.part(2, one[0], one[1]), HoopStairs.BAD_VALUE);
        }
        Check.due("3: nothing came in", x.count(0), 2);
        Check.due("3: nothing was recorded", x.count(15), 2);
        for (int i = 2; i < 20; i++) {
            Check.due("3: up to twenty", x.part(i, 0, 1), i + 1);
        }
        Check.due("3: a place ahead of too many", x.part(21, 0, 1), HoopStairs.NO_SUCH);
        Check.due("3: a value ahead of too many", x.part(20, 0, 10), HoopStairs.BAD_VALUE);
        Check.due("3: too many at the end", x.part(20, 0, 1), HoopStairs.TOO_MANY);
        Check.due("3: too many at the beginning", x.part(0, 2, 10), HoopStairs.TOO_MANY);
        Check.due("3: twenty still", x.count(0), 20);
    }

    private static void partsAreTakenAway() {
        HoopStairs x = Check.stairOf("d1 d2 d3 d4");
        Check.due("4: no such", x.takeAway(4), HoopStairs.NO_SUCH);
        Check.due("4: below 0", x.takeAway(-1), HoopStairs.NO_SUCH);
        Check.due("4: far above", x.takeAway(Integer.MAX_VALUE), HoopStairs.NO_SUCH);
        Check.due("4: nothing recorded", x.count(15), 4);
        Check.due("4: between", x.takeAway(1), 3);
        Check.due("4: what comes up", x.of(1, 1), 3);
        Check.due("4: the last", x.takeAway(2), 2);
        Check.due("4: the first", x.takeAway(0), 1);
        Check.due("4: what is left", x.of(0, 1), 3);
        Check.due("4: a change", x.count(15), 6);
        Check.due("4: the only one", x.takeAway(0), 0);
        Check.due("4: none is left", x.takeAway(0), HoopStairs.NO_SUCH);
        HoopStairs full = Check.stairOf("d1 d1 d1 d1 d1 d1 d1 d1 d1 d1 d1 d1 d1 d1 d1 d1 d1 d1 d1 g7");
        Check.due("4: of twenty", full.takeAway(0), 19);
        Check.due("4: the last one's place then", full.of(18, 1), 7);
        Check.due("4: there is room again", full.part(19, 2, 8), 20);
        Check.due("4: between, of twenty", full.takeAway(10), 19);
        Check.due("4: the two last ones then", full.of(17, 1) * 10 + full.of(18, 1), 78);
        Check.due("4: no twentieth", full.of(19, 1), HoopStairs.NO_SUCH);
    }

    private static void runsAreGoneWithChangesOfTheStair() {
        HoopStairs x = Check.stairOf("g30 g5");
        x.hoop(9);
        Check.due("3: a part that is refused leaves the hoop", x.part(0, 0, 10), HoopStairs.BAD_VALUE);
        Check.due("3: so it rolls", x.ofHoop(5), 0);
        x.part(0, 0, 1);
        Check.due("3: a run that goes on is gone", x.ofHoop(5), HoopStairs.NONE);
        Check.due("3: it does not roll", x.roll(1), HoopStairs.NOT_POSSIBLE);
        Check.due("3: it is no run that is over", x.run(0, 0), HoopStairs.NO_SUCH);
        Check.due("3: it counts as a run", x.count(1), 1);
        x.hoop(9);
        Check.due("stuck", x.roll(20), 2);
        Check.due("4: no part, so the run stays", x.takeAway(3), HoopStairs.NO_SUCH);
        Check.due("4: so it is told", x.ofHoop(5), 2);
        x.takeAway(0);
        Check.due("4: a run that is over is gone with its hoop", x.ofHoop(5), HoopStairs.NONE);
        Check.due("4: what was over stays told", x.run(0, 1), 2);
        Check.due("4: its place too, as it was", x.run(0, 2), 2);
        x.hoop(3);
        x.takeAway(1);
        Check.due("4: a run that goes on is gone", x.ofHoop(0), HoopStairs.NONE);
        Check.due("3 and 4: three runs", x.hoop(1), 4);
    }

    private static void whatIsToldOfParts() {
        HoopStairs x = Check.stairOf("g30 g20 l9 d9");
        x.hoop(31);
        x.roll(1);
        x.hoop(21);
        x.roll(20);
        x.hoop(20);
        x.roll(20);
        x.set(0, 10);
        x.hoop(1);
        x.tap(0);
        x.tap(0);
        x.roll(20);
        int[][] wanted = {{2, 30, 1, 1, 0}, {2, 20, 0, 1, 0}, {1, 9, 0, 0, 1}, {0, 9, 0, 0, 0}};
        for (int place = 0; place < 4; place++) {
            for (int what = 0; what < 5; what++) {
                Check.due("9: of(" + place + ", " + what + ")", x.of(place, what), wanted[place][what]);
            }
        }
        Check.due("9: no part", x.of(4, 0), HoopStairs.NO_SUCH);
        Check.due("9: no part below 0", x.of(-1, 0), HoopStairs.NO_SUCH);
        Check.due("9: no part ahead of a bad what", x.of(4, 5), HoopStairs.NO_SUCH);
        Check.due("9: what too high", x.of(3, 5), HoopStairs.BAD_VALUE);
        Check.due("9: what too low", x.of(0, -1), HoopStairs.BAD_VALUE);
        Check.due("9: no part far off", x.of(Integer.MIN_VALUE, 0), HoopStairs.NO_SUCH);
        Check.due("9: what far off", x.of(0, Integer.MAX_VALUE), HoopStairs.BAD_VALUE);
        x.part(1, 0, 1);
        Check.due("9: a new part begins with none", x.of(1, 3), 0);
        Check.due("9: counts go along with their part", x.of(2, 3), 1);
        Check.due("9: and those ahead stay", x.of(0, 2), 1);
        x.takeAway(0);
        Check.due("9: counts come up with their part", x.of(1, 3), 1);
        Check.due("9: and the landing's", x.of(2, 4), 1);
        x.takeAway(1);
        x.part(1, 2, 20);
        Check.due("9: the same part anew begins with none", x.of(1, 3), 0);
    }
}
