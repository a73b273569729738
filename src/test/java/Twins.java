/** Two objects, compared by all that they tell. */
final class Twins {
    private Twins() {
    }

    /** Whether they are the same now, as changes are undone, with what is in the slots, and with the pad. */
    static void areTheSame(String when, HoopStairs x, HoopStairs twin) {
        tellTheSame(when, x, twin);
        Check.due(when + ", the fault", x.fault(), twin.fault());
        for (int i = 1; i <= 7; i++) {
            Check.due(when + ", undo " + i, x.undo(), twin.undo());
            tellTheSameShortly(when + ", undone " + i, x, twin);
        }
        for (int slot = 0; slot < 2; slot++) {
            Check.due(when + ", restore " + slot, x.restore(slot), twin.restore(slot));
            tellTheSameShortly(when + ", restored " + slot, x, twin);
        }
        Check.due(when + ", put", x.put('!'), twin.put('!'));
        Check.due(when + ", carryOut", x.carryOut(), twin.carryOut());
        tellTheSameShortly(when + ", carried out", x, twin);
    }

    /** Whether they tell the same of everything that undo() and save() are about. */
    static void tellTheSame(String when, HoopStairs x, HoopStairs twin) {
        tellTheSameShortly(when, x, twin);
        for (int place = 0; place < twin.count(0); place++) {
            for (int what = 0; what < 5; what++) {
                Check.due(when + ", of(" + place + ", " + what + ")", x.of(place, what), twin.of(place, what));
            }
        }
        for (int rank = 0; rank < 3; rank++) {
            for (int what = 0; what < 4; what++) {
                Check.due(when + ", run(" + rank + ", " + what + ")", x.run(rank, what), twin.run(rank, what));
            }
        }
    }

    private static void tellTheSameShortly(String when, HoopStairs x, HoopStairs twin) {
        for (int what = 0; what < 16; what++) {
            Check.due(when + ", count(" + what + ")", x.count(what), twin.count(what));
        }
        for (int what = 0; what < 8; what++) {
            Check.due(when + ", ofHoop(" + what + ")", x.ofHoop(what), twin.ofHoop(what));
        }
    }
}
