import java.util.ArrayList;
import java.util.List;
import java.util.function.Supplier;
import java.util.regex.Matcher;
import java.util.regex.Pattern;

/** The document once more, told with lists, copies and regular expressions, to be compared with the class. */
final class Model {
    private static final int NO_SUCH = -1, BAD_VALUE = -2, BAD_TEXT = -3, TOO_MANY = -4, NOT_POSSIBLE = -5, NONE = -6;
    private static final Pattern TEXT = Pattern.compile("O(;O)*".replace("O", "([dl][0-9]|[gh](0|[1-9][0-9]?)|r(0|[1-9][0-9]?)?|[<>!])"));

    record Part(int kind, int value, int fell, int stuck, int stopped) {
        Part with(int ending) {
            return new Part(kind, value, fell + (ending == 1 ? 1 : 0), stuck + (ending == 2 ? 1 : 0),
                stopped + (ending == 3 ? 1 : 0));
        }
    }

    record Hoop(int size, int speed, int lean, int wobble, int place, int ending, int taps, int pushes) {
        Hoop at(int newPlace, int newEnding) {
            return new Hoop(size, speed, lean, wobble, newPlace, newEnding, taps, pushes);
        }

        Hoop moving(int newSpeed, int newLean, int newWobble) {
            return new Hoop(size, Math.max(0, Math.min(99, newSpeed)), newLean, Math.min(99, newWobble), place, ending,
                taps, pushes);
        }
    }

    record Over(int size, int how, int place, int taps) {
    }

    record World(List<Integer> settings, List<Part> parts, Hoop hoop, List<Over> overs, int runs, int taps) {
        World hooped(Hoop newHoop) {
            return new World(settings, parts, newHoop, overs, runs, taps);
        }

        World built(List<Part> newParts) {
            return new World(settings, List.copyOf(newParts), null, overs, runs, taps);
        }

        boolean rolls() {
            return hoop != null && hoop.ending == 0;
        }
    }

    private World now = new World(List.of(45, 4, 3, 8), List.of(), null, List.of(), 0, 0);
    private final List<World> history = new ArrayList<>();
    private final World[] slots = new World[2];
    private String pad = "";
    private boolean failed;

    private int bad(int code) {
        failed = true;
        return code;
    }

    /** Does a change, and records the state before it if it was no error. */
    private int change(Supplier<Integer> what) {
        World before = now;
        failed = false;
        int answer = what.get();
        if (failed) {
            now = before;
        } else {
            history.add(before);
            if (history.size() > 6) {
                history.remove(0);
            }
        }
        return answer;
    }

    int set(int setting, int value) {
        return change(() -> {
            int[][] ranges = {{10, 99}, {0, 20}, {0, 20}, {1, 30}};
            if (setting < 0 || setting > 3 || value < ranges[setting][0] || value > ranges[setting][1]) {
                return bad(BAD_VALUE);
            }
            List<Integer> settings = new ArrayList<>(now.settings);
            int previous = settings.set(setting, value);
            now = new World(List.copyOf(settings), now.parts, now.hoop, now.overs, now.runs, now.taps);
            return previous;
        });
    }

    int part(int place, int kind, int value) {
        return change(() -> comes(place, kind, value));
    }

    private int comes(int place, int kind, int value) {
        if (place < 0 || place > now.parts.size()) {
            return bad(NO_SUCH);
        }
        if (kind < 0 || kind > 2 || value < 1 || value > (kind == 2 ? 99 : 9)) {
            return bad(BAD_VALUE);
        }
        if (now.parts.size() == 20) {
            return bad(TOO_MANY);
        }
        List<Part> parts = new ArrayList<>(now.parts);
        parts.add(place, new Part(kind, value, 0, 0, 0));
        now = now.built(parts);
        return parts.size();
    }

    int takeAway(int place) {
        return change(() -> {
            if (place < 0 || place >= now.parts.size()) {
                return bad(NO_SUCH);
            }
            List<Part> parts = new ArrayList<>(now.parts);
            parts.remove(place);
            now = now.built(parts);
            return parts.size();
        });
    }

    int hoop(int size) {
        return change(() -> begins(size));
    }

    private static Hoop fresh(int size) {
        return new Hoop(size, 10, 0, 0, 0, 0, 0, 0);
    }

    private int begins(int size) {
        if (size < 1 || size > 60) {
            return bad(BAD_VALUE);
        }
        now = new World(now.settings, now.parts, fresh(size), now.overs, now.runs + 1, now.taps);
        return now.runs;
    }

    int roll(int parts) {
        return change(() -> rolls(parts));
    }

    private int rolls(int parts) {
        if (parts < 1 || parts > 20) {
            return bad(BAD_VALUE);
        }
        if (!now.rolls()) {
            return bad(NOT_POSSIBLE);
        }
        List<Hoop> steps = steps(now.hoop);
        Hoop then = steps.get(Math.min(parts, steps.size()) - 1);
        List<Part> stair = new ArrayList<>(now.parts);
        List<Over> overs = new ArrayList<>(now.overs);
        if (then.ending >= 1 && then.ending <= 3) {
            stair.set(then.place, stair.get(then.place).with(then.ending));
        }
        if (then.ending != 0) {
            overs.add(new Over(then.size, then.ending, then.place, then.taps));
        }
        now = new World(now.settings, List.copyOf(stair), then, List.copyOf(overs), now.runs, now.taps);
        return then.ending;
    }

    /** The hoop behind each part from now on, up to the end of its run. */
    private List<Hoop> steps(Hoop from) {
        List<Hoop> steps = new ArrayList<>();
        Hoop hoop = from;
        if (now.parts.isEmpty()) {
            steps.add(hoop.at(0, 4));
        }
        for (int place = from.place; place < now.parts.size() && hoop.ending == 0; place++) {
            hoop = behind(hoop, now.parts.get(place));
            if (hoop.ending == 0 && (hoop.lean >= now.settings.get(0) || -hoop.lean >= now.settings.get(0))) {
                hoop = hoop.at(place, 1);
            } else if (hoop.ending == 0) {
                hoop = hoop.at(place + 1, place + 1 == now.parts.size() ? 4 : 0);
            }
            steps.add(hoop);
        }
        return steps;
    }

    private Hoop behind(Hoop hoop, Part part) {
        if (part.kind == 2) {
            return hoop.size + hoop.wobble / 4 > part.value ? hoop.at(hoop.place, 2) : hoop;
        }
        if (part.kind == 0) {
            int wobble = Math.min(99, hoop.wobble + now.settings.get(1) * part.value);
            int side = hoop.place % 2 == 0 ? 1 : -1;
            return hoop.moving(hoop.speed + 4 * part.value, hoop.lean + side * (wobble / 4), wobble);
        }
        Hoop then = hoop;
        for (int i = 0; i < part.value; i++) {
            int speed = Math.max(0, then.speed - now.settings.get(2));
            int nearer = Math.max(0, Math.abs(then.lean) - speed / 20);
            then = then.moving(speed, Integer.signum(then.lean) * nearer, then.wobble - then.wobble / 4);
        }
        return then.speed == 0 ? then.at(hoop.place, 3) : then;
    }

    int tap(int from) {
        return change(() -> taps(from));
    }

    private int taps(int from) {
        if (from < 0 || from > 1) {
            return bad(BAD_VALUE);
        }
        if (!now.rolls()) {
            return bad(NOT_POSSIBLE);
        }
        Hoop hoop = tapped(now.hoop, from);
        now = new World(now.settings, now.parts, hoop, now.overs, now.runs, now.taps + 1);
        return hoop.lean + 500;
    }

    private Hoop tapped(Hoop hoop, int from) {
        return new Hoop(hoop.size, hoop.speed, hoop.lean + now.settings.get(3) * (1 - 2 * from),
            Math.min(99, hoop.wobble + 2), hoop.place, hoop.ending, hoop.taps + 1, hoop.pushes);
    }

    int push() {
        return change(this::pushes);
    }

    private int pushes() {
        if (!now.rolls()) {
            return bad(NOT_POSSIBLE);
        }
        Hoop was = now.hoop;
        now = now.hooped(new Hoop(was.size, Math.min(99, was.speed + 5), was.lean, was.wobble, was.place, was.ending,
            was.taps, was.pushes + 1));
        return now.hoop.speed;
    }

    int of(int place, int what) {
        if (place < 0 || place >= now.parts.size()) {
            return NO_SUCH;
        }
        Part part = now.parts.get(place);
        int[] all = {part.kind, part.value, part.fell, part.stuck, part.stopped};
        return what < 0 || what >= all.length ? BAD_VALUE : all[what];
    }

    int ofHoop(int what) {
        if (what < 0 || what > 7) {
            return BAD_VALUE;
        }
        Hoop hoop = now.hoop;
        return hoop == null ? NONE : new int[] {hoop.size, hoop.speed, hoop.lean + 500, hoop.wobble, hoop.place,
            hoop.ending, hoop.taps, hoop.pushes}[what];
    }

    int run(int rank, int what) {
        if (rank < 0 || rank >= Math.min(10, now.overs.size())) {
            return NO_SUCH;
        }
        Over over = now.overs.get(now.overs.size() - 1 - rank);
        int[] all = {over.size, over.how, over.place, over.taps};
        return what < 0 || what >= all.length ? BAD_VALUE : all[what];
    }

    int count(int what) {
        if (what < 0 || what > 15) {
            return BAD_VALUE;
        }
        if (what >= 10 && what <= 13) {
            return now.settings.get(what - 10);
        }
        switch (what) {
            case 0: return now.parts.size();
            case 1: return now.runs;
            case 6: return now.parts.stream().filter(p -> p.kind == 2).mapToInt(Part::value).min().orElse(0);
            case 7: return now.parts.stream().filter(p -> p.kind == 0).mapToInt(Part::value).sum();
            case 8: return now.parts.stream().filter(p -> p.kind == 1).mapToInt(Part::value).sum();
            case 9: return now.taps;
            case 14: return pad.length();
            case 15: return history.size();
            default: return (int) now.overs.stream().filter(o -> o.how == what - 1).count();
        }
    }

    int ifRolled(int what) {
        if (what < 0 || what > 3) {
            return BAD_VALUE;
        }
        if (!now.rolls()) {
            return NOT_POSSIBLE;
        }
        List<Hoop> steps = steps(now.hoop);
        Hoop last = steps.get(steps.size() - 1);
        int greatest = now.parts.isEmpty() ? 0 : steps.stream().filter(h -> h.ending != 2 && h.ending != 3)
            .mapToInt(h -> Math.abs(h.lean)).max().orElse(0);
        return new int[] {last.ending, last.place, last.speed, greatest}[what];
    }

    private boolean passes(Hoop hoop) {
        List<Hoop> steps = steps(hoop);
        return steps.get(steps.size() - 1).ending == 4;
    }

    int widest() {
        int widest = NONE;
        for (int size = 1; size <= 60; size++) {
            widest = passes(fresh(size)) ? size : widest;
        }
        return widest;
    }

    int saves(int from) {
        if (from < 0 || from > 1) {
            return BAD_VALUE;
        }
        if (!now.rolls()) {
            return NOT_POSSIBLE;
        }
        Hoop hoop = now.hoop;
        for (int taps = 0; taps <= 20; taps++) {
            if (passes(hoop)) {
                return taps;
            }
            hoop = tapped(hoop, from);
        }
        return NONE;
    }

    int traced(int size, int place, int what) {
        if (place < 0 || place >= now.parts.size()) {
            return NO_SUCH;
        }
        if (size < 1 || size > 60 || what < 0 || what > 2) {
            return BAD_VALUE;
        }
        List<Hoop> steps = steps(fresh(size));
        if (place >= steps.size() || steps.get(place).ending % 4 != 0) {
            return NONE;
        }
        Hoop then = steps.get(place);
        return new int[] {then.speed, then.lean + 500, then.wobble}[what];
    }

    int put(long characters) {
        StringBuilder text = new StringBuilder();
        for (long rest = characters; rest != 0; rest >>>= 8) {
            int code = (int) (rest % 256 + 256) % 256;
            if (code < 33 || code > 126) {
                return BAD_VALUE;
            }
            text.insert(0, (char) code);
        }
        if (text.length() == 0) {
            return BAD_VALUE;
        }
        if (pad.length() + text.length() > 80) {
            return TOO_MANY;
        }
        pad += text;
        return pad.length();
    }

    int wipe() {
        int length = pad.length();
        pad = "";
        return length;
    }

    int fault() {
        for (int end = 1; end <= pad.length(); end++) {
            Matcher matcher = TEXT.matcher(pad.substring(0, end));
            if (!matcher.matches() && !matcher.hitEnd()) {
                return end - 1;
            }
        }
        return TEXT.matcher(pad).matches() ? NONE : pad.length();
    }

    int carryOut() {
        return change(() -> {
            if (fault() != NONE) {
                return bad(BAD_TEXT);
            }
            int done = 0;
            for (String order : pad.split(";")) {
                failed = false;
                carry(order);
                if (failed) {
                    break;
                }
                done++;
            }
            failed = false;
            pad = "";
            return done;
        });
    }

    private int carry(String order) {
        int number = order.length() == 1 ? 1 : Integer.parseInt(order.substring(1));
        switch (order.charAt(0)) {
            case 'd': return comes(now.parts.size(), 0, number);
            case 'l': return comes(now.parts.size(), 1, number);
            case 'g': return comes(now.parts.size(), 2, number);
            case 'h': return begins(number);
            case 'r': return rolls(number);
            case '<': return taps(0);
            case '>': return taps(1);
            default: return pushes();
        }
    }

    int undo() {
        if (history.isEmpty()) {
            return NOT_POSSIBLE;
        }
        now = history.remove(history.size() - 1);
        return history.size();
    }

    int save(int slot) {
        if (slot < 0 || slot > 1) {
            return BAD_VALUE;
        }
        slots[slot] = now;
        return now.parts.size();
    }

    int restore(int slot) {
        return change(() -> {
            if (slot < 0 || slot > 1) {
                return bad(BAD_VALUE);
            }
            if (slots[slot] == null) {
                return bad(NOT_POSSIBLE);
            }
            now = slots[slot];
            return now.parts.size();
        });
    }
}
