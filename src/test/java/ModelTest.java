/** Long runs of calls, ordinary and wrong ones, compared with the answers of the model. */
public final class ModelTest {
    // What an object answers after its 512th call is free.
    private static final int RUNS = 4000, CALLS = 512, MOST_CALLS_AT_ONCE = 8;
    private static final String[] ORDERS = {"d", "l", "g", "h", "r", "<", ">", "!", "r"};

    private long seed;
    private HoopStairs x;
    private Model model;
    private boolean calm;

    public static void main(String[] args) {
        for (int run = 1; run <= RUNS && Check.isClean(); run++) {
            new ModelTest().go(run);
        }
        Check.end();
    }

    private void go(int run) {
        seed = run * 7919L;
        x = new HoopStairs();
        model = new Model();
        calm = run % 3 != 0;
        int before = Check.asked();
        int calls = 0;
        while (calls + MOST_CALLS_AT_ONCE <= CALLS && Check.isClean()) {
            one("run " + run + ", call " + (calls + 1) + ": ");
            calls = Check.asked() - before;
        }
    }

    /** A number from 0 to bound - 1, by a rule of its own, so that each run is the same each time. */
    private int upTo(int bound) {
        seed = seed * 6364136223846793005L + 1442695040888963407L;
        return (int) ((seed >>> 33) % bound);
    }

    /** Mostly a number of the range, at times one about its ends or far off. */
    private int about(int least, int greatest) {
        int way = upTo(24);
        if (way == 0) {
            return least - 1 - upTo(2);
        }
        if (way == 1) {
            return greatest + 1 + upTo(2);
        }
        if (way == 2) {
            return upTo(2) == 0 ? Integer.MIN_VALUE : Integer.MAX_VALUE;
        }
        return least + upTo(Math.max(1, greatest - least + 1));
    }

    private void one(String when) {
        int way = upTo(100);
        if (way < 12) {
            build(when);
        } else if (way < 45) {
            move(when);
        } else if (way < 75) {
            ask(when);
        } else if (way < 90) {
            text(when);
        } else {
            back(when);
        }
    }

    private void build(String when) {
        int way = upTo(12);
        if (way < 2) {
            int setting = about(0, 3);
            int[] greatest = {99, 20, 20, 30};
            int value = about(0, setting >= 0 && setting < 4 ? greatest[setting] : 9);
            value = calm && setting == 2 ? value / 5 : value;
            Check.due(when + "set(" + setting + ", " + value + ")", x.set(setting, value), model.set(setting, value));
        } else if (way < 10) {
            int place = about(0, model.count(0));
            int kind = about(0, 2);
            int value = kind == 2 ? about(calm ? 40 : 1, 99) : about(1, calm ? 4 : 9);
            Check.due(when + "part(" + place + ", " + kind + ", " + value + ")", x.part(place, kind, value),
                model.part(place, kind, value));
        } else {
            int place = about(0, model.count(0) - 1);
            Check.due(when + "takeAway(" + place + ")", x.takeAway(place), model.takeAway(place));
        }
    }

    private void move(String when) {
        int way = upTo(10);
        if (way < 2) {
            int size = about(1, 60);
            Check.due(when + "hoop(" + size + ")", x.hoop(size), model.hoop(size));
        } else if (way < 5) {
            int parts = upTo(3) == 0 ? about(1, 20) : about(1, 3);
            Check.due(when + "roll(" + parts + ")", x.roll(parts), model.roll(parts));
        } else if (way < 8) {
            int from = about(0, 1);
            Check.due(when + "tap(" + from + ")", x.tap(from), model.tap(from));
        } else {
            Check.due(when + "push()", x.push(), model.push());
        }
    }

    private void ask(String when) {
        int what = about(0, 7);
        int place = about(0, model.count(0) - 1);
        int few = about(0, 4);
        int rank = about(0, 9);
        int many = about(0, 15);
        switch (upTo(6)) {
            case 0: Check.due(when + "of(" + place + ", " + few + ")", x.of(place, few), model.of(place, few)); break;
            case 1: Check.due(when + "ofHoop(" + what + ")", x.ofHoop(what), model.ofHoop(what)); break;
            case 2: Check.due(when + "run(" + rank + ", " + few + ")", x.run(rank, few), model.run(rank, few)); break;
            case 3: Check.due(when + "count(" + many + ")", x.count(many), model.count(many)); break;
            default: askWhatIf(when, place, few); break;
        }
    }

    private void askWhatIf(String when, int place, int few) {
        int size = about(1, 60);
        int from = about(0, 1);
        switch (upTo(4)) {
            case 0: Check.due(when + "ifRolled(" + few + ")", x.ifRolled(few), model.ifRolled(few)); break;
            case 1: Check.due(when + "widest()", x.widest(), model.widest()); break;
            case 2: Check.due(when + "saves(" + from + ")", x.saves(from), model.saves(from)); break;
            default:
                Check.due(when + "traced(" + size + ", " + place + ", " + few + ")", x.traced(size, place, few),
                    model.traced(size, place, few));
                break;
        }
    }

    private void text(String when) {
        int way = upTo(10);
        if (way < 6) {
            StringBuilder text = new StringBuilder(upTo(2) == 0 || model.count(14) == 0 ? "" : ";");
            for (int i = upTo(3); i >= 0; i--) {
                text.append(order()).append(i == 0 ? "" : ";");
            }
            long characters = Check.packed(text.length() > 8 ? text.substring(0, 8) : text.toString());
            characters = upTo(40) == 0 ? characters << 8 : characters;
            characters = upTo(40) == 0 ? characters ^ 1L << upTo(64) : characters;
            Check.due(when + "put(" + characters + ")", x.put(characters), model.put(characters));
        }
        Check.due(when + "fault()", x.fault(), model.fault());
        if (way >= 5) {
            Check.due(when + "carryOut()", x.carryOut(), model.carryOut());
        }
        if (way == 9 || model.fault() >= 0 && upTo(2) == 0) {
            Check.due(when + "wipe()", x.wipe(), model.wipe());
        }
    }

    private String order() {
        String order = ORDERS[upTo(ORDERS.length)];
        int number = upTo(30) == 0 ? upTo(200) : 1 + upTo("dl".contains(order) ? 9 : "r".equals(order) ? 20 : 60);
        if (upTo(40) == 0) {
            return order + (char) (33 + upTo(94));
        }
        return "<>!".contains(order) || "r".equals(order) && upTo(2) == 0 ? order : order + number;
    }

    private void back(String when) {
        int way = upTo(10);
        int slot = about(0, 1);
        if (way < 5) {
            Check.due(when + "undo()", x.undo(), model.undo());
        } else if (way < 8) {
            Check.due(when + "save(" + slot + ")", x.save(slot), model.save(slot));
        } else {
            Check.due(when + "restore(" + slot + ")", x.restore(slot), model.restore(slot));
        }
        for (int i = 0; i < 3; i++) {
            int what = upTo(16);
            Check.due(when + "then count(" + what + ")", x.count(what), model.count(what));
            Check.due(when + "then ofHoop(" + what % 8 + ")", x.ofHoop(what % 8), model.ofHoop(what % 8));
        }
    }
}
