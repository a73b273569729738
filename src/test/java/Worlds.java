import java.util.ArrayList;
import java.util.List;
import java.util.function.Supplier;

/** Objects in states that several tests begin with. */
final class Worlds {
    private Worlds() {
    }

    /** What a test calls on an object. */
    interface Call {
        int on(HoopStairs x);
    }

    record Named(String name, Supplier<HoopStairs> maker) {
        HoopStairs make() {
            return maker.get();
        }
    }

    /** A stair of so many parts, all of them the same, such as "d1". */
    static HoopStairs manyOf(int parts, String part) {
        return Check.stairOf((part + " ").repeat(parts));
    }

    /** A run of the hoop 9, tapped once from the left, that fell (1), is stuck (2), stopped (3), or passed (4). */
    static HoopStairs ended(int way) {
        HoopStairs x = Check.stairOf(new String[] {"d9", "g1", "l9", "d1"}[way - 1]);
        x.set(HoopStairs.TIP, way == 1 ? 10 : 45);
        x.hoop(9);
        x.tap(0);
        x.roll(1);
        return x;
    }

    static List<Named> withoutAHoopThatRolls() {
        List<Named> all = new ArrayList<>();
        all.add(new Named("a new object", HoopStairs::new));
        all.add(new Named("no hoop yet", () -> Check.stairOf("d1 d1")));
        all.add(new Named("fallen", () -> ended(1)));
        all.add(new Named("stuck", () -> ended(2)));
        all.add(new Named("stopped", () -> ended(3)));
        all.add(new Named("passed", () -> ended(4)));
        all.add(new Named("gone as a part came", () -> {
            HoopStairs x = rolling("d1 d1");
            x.part(0, 0, 1);
            return x;
        }));
        all.add(new Named("gone as a part was taken away", () -> {
            HoopStairs x = rolling("d1 d1");
            x.takeAway(1);
            return x;
        }));
        return all;
    }

    static HoopStairs rolling(String parts) {
        HoopStairs x = Check.stairOf(parts);
        x.hoop(9);
        return x;
    }

    /** Much has been in it: a run stuck, a hoop that rolls, six states to undo, the slot 0, a pad with a fault. */
    static HoopStairs busy() {
        HoopStairs x = Check.stairOf("d3 l2 g20 d9");
        x.hoop(30);
        x.tap(0);
        x.roll(20);
        x.save(0);
        x.set(HoopStairs.TAP, 5);
        x.hoop(7);
        x.tap(1);
        x.push();
        x.roll(1);
        Check.putText(x, "h5;r2;");
        return x;
    }

    /** The same with a run that is over, and with a pad of 80 characters. */
    static HoopStairs over() {
        HoopStairs x = busy();
        x.roll(20);
        x.wipe();
        Check.putText(x, "<;".repeat(40));
        return x;
    }

    /** Twenty parts and no hoop. */
    static HoopStairs full() {
        HoopStairs x = manyOf(20, "g20");
        x.save(1);
        return x;
    }

    /** Makes a rolling hoop lean so far to the right, or below 0 to the left. The setting TAP is another then. */
    static void lean(HoopStairs x, int wanted) {
        int from = wanted > 0 ? 0 : 1;
        for (int left = Math.abs(wanted); left > 0; left -= Math.min(30, left)) {
            x.set(HoopStairs.TAP, Math.min(30, left));
            x.tap(from);
        }
    }

    static void taps(HoopStairs x, int times, int from) {
        for (int i = 0; i < times; i++) {
            x.tap(from);
        }
    }

    static void pushes(HoopStairs x, int times) {
        for (int i = 0; i < times; i++) {
            x.push();
        }
    }
}
