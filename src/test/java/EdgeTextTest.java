/** The sentences of 'Texts' and of the promises 17 to 20 that name a boundary, each with its own test. */
public final class EdgeTextTest {
    private static final int BAD_VALUE = HoopStairs.BAD_VALUE, BAD_TEXT = HoopStairs.BAD_TEXT,
        TOO_MANY = HoopStairs.TOO_MANY, NONE = HoopStairs.NONE;
    private static final String DIGITS = "0123456789", ORDERS = "dlghr<>!";

    public static void main(String[] args) {
        texts();
        putAndWipe();
        faultAndCarryOut();
        Check.end();
    }

    private static void texts() {
        Sentence.under("Terms");
        Sentence.says("The pad is a text of at most 80 characters, a row of orders", EdgeTextTest::atMost80);
        Sentence.says("text = order { \";\" order }", EdgeTextTest::rowsOfOrders);
        Sentence.says("( \"d\" | \"l\" ) digit", EdgeTextTest::dropsAndLandings);
        Sentence.says("\"g\" number | \"h\" number", EdgeTextTest::gatesAndHoops);
        Sentence.says("\"r\" [ number ]", EdgeTextTest::rolls);
        Sentence.says("\"<\" | \">\" | \"!\"", EdgeTextTest::tapsAndPushes);
        Sentence.says("\"d\", \"l\", \"g\": a part comes to the end of the stair: a drop, a landing, a gate",
            EdgeTextTest::toTheEndOfTheStair);
        Sentence.says("\"h\": hoop() of a size", EdgeTextTest::hoopsOfASize);
        Sentence.says("\"r\": roll() over so many parts (1 without)", EdgeTextTest::oneWithout);
        Sentence.says("\"<\", \">\": tap() from the left, or from the right; \"!\": push()",
            EdgeTextTest::tapsAndPushesDone);
        Sentence.says("A digit is 0 to 9, a number 0 to 99, without leading zeros.", EdgeTextTest::digitsAndNumbers);
        Sentence.says("The fault is the index of the first character that cannot stand at its place when the text is "
            + "read from left to right", EdgeTextTest::firstThatCannotStand);
        Sentence.says("(also of a digit by which a number would be above 99)", EdgeTextTest::above99);
        Sentence.says("if there is none and the text ends too early (also if it is empty), it is the length of the "
            + "text.", EdgeTextTest::endsTooEarly);
    }

    private static void putAndWipe() {
        Sentence.under("Promise 17: put");
        Sentence.says("its lowest 8 bits are the last character, the next 8 bits the one before, and so on",
            EdgeTextTest::lowestBitsAreTheLast);
        Sentence.says("8 bits that are 0 mean that there are no more characters, and everything above them has to be "
            + "0, too.", EdgeTextTest::nothingAboveZeroBits);
        Sentence.says("`characters`: 1 to 8 characters", EdgeTextTest::oneToEight);
        Sentence.says("Returns the length of the pad then", EdgeTextTest::lengthThen);
        Sentence.says("BAD_VALUE if there is no character", EdgeTextTest::noCharacter);
        Sentence.says("a code is not 33 to 126", EdgeTextTest::codes);
        Sentence.says("or a bit above 8 bits that are 0 is not 0", EdgeTextTest::bitsAboveZeroBits);
        Sentence.says("TOO_MANY if the pad would be longer than 80", EdgeTextTest::longerThan80);
        Sentence.under("Promise 18: wipe");
        Sentence.says("Empties the pad, and returns the length that it had.", EdgeTextTest::wipes);
    }

    private static void faultAndCarryOut() {
        Sentence.under("Promise 19: fault");
        Sentence.says("Returns the fault of the pad, NONE if there is none.", EdgeTextTest::noFault);
        Sentence.under("Promise 20: carryOut");
        Sentence.says("Carries the orders of the pad out, one after the other, up to the first one that returns an "
            + "error", EdgeTextTest::upToTheFirstError);
        Sentence.says("and empties the pad", EdgeTextTest::emptiesThePad);
        Sentence.says("This is a change (one, with all of them; also if none is carried out).",
            EdgeTextTest::oneChange);
        Sentence.says("Returns how many orders were carried out", EdgeTextTest::howManyOrders);
        Sentence.says("BAD_TEXT if the pad has a fault (then it stays).", EdgeTextTest::faultyPadStays);
    }

    private static void due(String call, int got, int want) {
        Check.due(call, got, want);
    }

    private static HoopStairs withPad(String text) {
        HoopStairs x = new HoopStairs();
        Check.putText(x, text);
        return x;
    }

    private static void faultIs(String text, int fault) {
        HoopStairs x = withPad(text);
        due("the fault of '" + text + "'", x.fault(), fault);
        due("the length of '" + text + "'", x.count(14), text.length());
    }

    /** Behind a text that has no fault but its end, these characters can stand, and no others. */
    private static void canStandBehind(String text, String these) {
        for (char next = 33; next <= 126; next++) {
            boolean wantsMore = next == ';' || "dlgh".indexOf(next) >= 0;
            int standing = wantsMore ? text.length() + 1 : NONE;
            faultIs(text + next, these.indexOf(next) >= 0 ? standing : text.length());
        }
    }

    // ---- the grammar

    private static void atMost80() {
        HoopStairs x = new HoopStairs();
        for (int length = 1; length <= 80; length++) {
            due("the character " + length, x.put(length % 2 == 1 ? '!' : ';'), length);
        }
        due("one more", x.put('!'), TOO_MANY);
        due("the length", x.count(14), 80);
        due("the fault behind all", x.fault(), 80);
        faultIs("d1;".repeat(26) + "r1", NONE);
        faultIs("d1;".repeat(26) + "r?", 79);
        faultIs("d1;".repeat(26) + "g1", NONE);
        faultIs("d1;".repeat(26) + "!g", 79);
    }

    private static void rowsOfOrders() {
        for (String behind : new String[] {"", "d5;", "g50;", "h0;", "r;", "r20;", "<;", ">;", "!;", "l0;d9;"}) {
            canStandBehind(behind, ORDERS);
        }
        for (String order : new String[] {"d5", "l5", "g50", "h50", "r", "r20", "<", ">", "!"}) {
            faultIs(order, NONE);
            faultIs(order + ";" + order, NONE);
            faultIs(order + order, order.length());
            faultIs(order + ";;" + order, order.length() + 1);
            faultIs(";" + order, 0);
            faultIs(order + ";", order.length() + 1);
        }
    }

    private static void dropsAndLandings() {
        for (String order : new String[] {"d", "l"}) {
            canStandBehind(order, DIGITS);
            canStandBehind("!;" + order, DIGITS);
            for (char digit = '0'; digit <= '9'; digit++) {
                canStandBehind(order + digit, ";");
            }
        }
    }

    private static void gatesAndHoops() {
        for (String order : new String[] {"g", "h"}) {
            canStandBehind(order, DIGITS);
            canStandBehind("!;" + order, DIGITS);
            canStandBehind(order + "0", ";");
            for (char digit = '1'; digit <= '9'; digit++) {
                canStandBehind(order + digit, DIGITS + ";");
            }
            canStandBehind(order + "10", ";");
            canStandBehind(order + "99", ";");
        }
    }

    private static void rolls() {
        canStandBehind("r", DIGITS + ";");
        canStandBehind("!;r", DIGITS + ";");
        canStandBehind("r0", ";");
        for (char digit = '1'; digit <= '9'; digit++) {
            canStandBehind("r" + digit, DIGITS + ";");
        }
        canStandBehind("r10", ";");
        canStandBehind("r99", ";");
        faultIs("r", NONE);
    }

    private static void tapsAndPushes() {
        for (String order : new String[] {"<", ">", "!"}) {
            faultIs(order, NONE);
            canStandBehind(order, ";");
            canStandBehind("r;" + order, ";");
        }
    }

    private static void toTheEndOfTheStair() {
        HoopStairs x = withPad("d1");
        x.carryOut();
        due("to the end of an empty one", x.of(0, 0) * 100 + x.of(0, 1), 1);
        Check.putText(x, "l2;g3");
        x.carryOut();
        due("a landing behind it", x.of(1, 0) * 100 + x.of(1, 1), 102);
        due("a gate behind that", x.of(2, 0) * 100 + x.of(2, 1), 203);
        due("the drop stays on top", x.of(0, 1), 1);
        Check.putText(x, "d4");
        x.carryOut();
        due("a drop behind them all", x.of(3, 0) * 100 + x.of(3, 1), 4);
        HoopStairs nineteen = Worlds.manyOf(19, "d1");
        Check.putText(nineteen, "g99;g98");
        due("the twentieth, and no more", nineteen.carryOut(), 1);
        due("the twentieth", nineteen.of(19, 1), 99);
        HoopStairs rolling = Worlds.rolling("d1 d1");
        Check.putText(rolling, "d1");
        rolling.carryOut();
        due("a run is gone then", rolling.ofHoop(5), NONE);
    }

    private static void hoopsOfASize() {
        for (int size = 0; size <= 99; size++) {
            HoopStairs x = withPad("h" + size);
            boolean fine = size >= 1 && size <= 60;
            due("h" + size, x.carryOut(), fine ? 1 : 0);
            due("its size", x.ofHoop(0), fine ? size : NONE);
        }
        HoopStairs x = withPad("h60;h1");
        due("two", x.carryOut(), 2);
        due("the second in place of the first", x.ofHoop(0), 1);
        due("two runs", x.count(1), 2);
    }

    private static void tapsAndPushesDone() {
        HoopStairs x = Worlds.rolling("g9");
        Check.putText(x, "<;<;<");
        x.carryOut();
        due("from the left", x.ofHoop(2), 524);
        Check.putText(x, ">;>;>;>");
        x.carryOut();
        due("from the right", x.ofHoop(2), 492);
        due("all taps", x.ofHoop(6), 7);
        due("no push", x.ofHoop(7), 0);
        Check.putText(x, "!" + ";!".repeat(17));
        x.carryOut();
        due("all pushes", x.ofHoop(7), 18);
        due("99 at most", x.ofHoop(1), 99);
    }

    private static void oneWithout() {
        HoopStairs x = Worlds.rolling("g9 g9 g9 g9");
        Check.putText(x, "r");
        due("r", x.carryOut(), 1);
        due("over one", x.ofHoop(4), 1);
        Check.putText(x, "r;r");
        due("r;r", x.carryOut(), 2);
        due("over two", x.ofHoop(4), 3);
        x.hoop(9);
        Check.putText(x, "r2;r");
        due("r2;r", x.carryOut(), 2);
        due("over three", x.ofHoop(4), 3);
        x.hoop(9);
        Check.putText(x, "r0");
        due("r0 is not r", x.carryOut(), 0);
        HoopStairs full = Worlds.manyOf(20, "g9");
        full.hoop(9);
        Check.putText(full, "r20");
        due("r20", full.carryOut(), 1);
        due("over twenty", full.ofHoop(4), 20);
    }

    private static void digitsAndNumbers() {
        for (String order : new String[] {"g", "h", "r"}) {
            for (int number = 0; number <= 99; number++) {
                faultIs(order + number, NONE);
                if (number < 10) {
                    faultIs(order + "0" + number, 2);
                }
            }
            faultIs(order + "000", 2);
            faultIs(order + "100", 3);
            faultIs(order + "-1", 1);
            faultIs(order + "+1", 1);
        }
        for (String order : new String[] {"d", "l"}) {
            for (int digit = 0; digit <= 9; digit++) {
                faultIs(order + digit, NONE);
                faultIs(order + "0" + digit, 2);
                faultIs(order + digit + "0", 2);
            }
        }
        HoopStairs x = withPad("g9;g10;g99;d9;l9;d1;l1;g1");
        due("all of them are read", x.carryOut(), 8);
        int[] values = {9, 10, 99, 9, 9, 1, 1, 1};
        for (int place = 0; place < 8; place++) {
            due("read at " + place, x.of(place, 1), values[place]);
        }
    }

    private static void firstThatCannotStand() {
        faultIs("?", 0);
        faultIs("?d1;", 0);
        faultIs("d?", 1);
        faultIs("d??", 1);
        faultIs("d1?;?", 2);
        faultIs("d1;d10;d10", 5);
        faultIs("d1;;g100", 3);
        faultIs("g100;;", 3);
        faultIs("h5;r2;<x;>;!", 7);
        faultIs("d1;" + "D1", 3);
        faultIs("d1;l2;g30;h40;r5;<;>;!?", 22);
        faultIs("d0;h0;h99;r0;r99;?", 17);
        faultIs("!;".repeat(39) + "!!", 79);
        faultIs("?".repeat(80), 0);
    }

    private static void above99() {
        for (String order : new String[] {"g", "h", "r"}) {
            faultIs(order + "99", NONE);
            for (int number = 100; number <= 999; number += 29) {
                faultIs(order + number, 3);
            }
            faultIs(order + "100", 3);
            faultIs(order + "990", 3);
            faultIs(order + "999", 3);
            faultIs(order + "1000", 3);
            faultIs("!;" + order + "100", 5);
        }
    }

    private static void endsTooEarly() {
        due("a new pad", new HoopStairs().fault(), 0);
        faultIs("", 0);
        for (String early : new String[] {"d", "l", "g", "h", "d1;", "r;", "r5;", "g9;", "g99;", "<;", ">;", "!;",
            "d1;l", "d1;g", "!;h", "d1;d1;"}) {
            faultIs(early, early.length());
        }
        faultIs("!;".repeat(40), 80);
        faultIs("!;".repeat(39) + "r;", 80);
        faultIs("!;".repeat(39) + ">", NONE);
        HoopStairs x = withPad("d1;");
        x.wipe();
        due("a pad that was wiped", x.fault(), 0);
        x.put('!');
        x.carryOut();
        due("a pad that was carried out", x.fault(), 0);
    }

    // ---- put, wipe

    private static void lowestBitsAreTheLast() {
        HoopStairs x = new HoopStairs();
        x.put(('d' << 8) + '7');
        due("d7", x.carryOut(), 1);
        due("its height", x.of(0, 1), 7);
        x.put(((long) 'g' << 56) + ((long) '4' << 48) + ((long) '2' << 40) + ((long) ';' << 32) + ('g' << 24)
            + ('3' << 16) + ('5' << 8) + ';');
        x.put(('l' << 8) + '8');
        due("g42;g35;l8", x.carryOut(), 3);
        due("their values", x.of(1, 1) * 1000 + x.of(2, 1) * 10 + x.of(3, 1), 42358);
        x.put(('7' << 8) + 'd');
        due("7d", x.fault(), 0);
    }

    private static void nothingAboveZeroBits() {
        String text = "!;!;!;!;";
        for (int length = 1; length <= 8; length++) {
            HoopStairs x = new HoopStairs();
            due(length + " with nothing above them", x.put(Check.packed(text.substring(0, length))), length);
        }
        for (int gap = 0; gap < 7; gap++) {
            for (int above = gap + 1; above < 8; above++) {
                HoopStairs x = new HoopStairs();
                long below = Check.packed(text.substring(0, gap));
                due("8 bits that are 0 at " + gap + ", a character at " + above, x.put(below | (long) '!' << 8 * above),
                    BAD_VALUE);
                due("none came", x.count(14), 0);
            }
        }
    }

    private static void oneToEight() {
        for (int length = 0; length <= 8; length++) {
            HoopStairs x = new HoopStairs();
            due("!".repeat(length), x.put(Check.packed("!".repeat(length))), length == 0 ? BAD_VALUE : length);
            due("then", x.count(14), length);
        }
    }

    private static void lengthThen() {
        HoopStairs x = new HoopStairs();
        int length = 0;
        for (int more : new int[] {1, 8, 2, 7, 3, 6, 4, 5, 8, 8, 8, 8, 8, 4}) {
            length += more;
            due(more + " more", x.put(Check.packed("~".repeat(more))), length);
        }
        due("full", length, 80);
        x.wipe();
        due("when it was wiped", x.put('~'), 1);
    }

    private static void noCharacter() {
        HoopStairs x = new HoopStairs();
        due("of an empty pad", x.put(0), BAD_VALUE);
        x.put('!');
        due("of another", x.put(0), BAD_VALUE);
        due("then", x.count(14), 1);
    }

    private static void codes() {
        for (int at = 0; at < 8; at++) {
            for (int code = 1; code < 256; code++) {
                HoopStairs x = new HoopStairs();
                long others = Check.packed("A".repeat(8)) & ~(255L << 8 * at);
                boolean fine = code >= 33 && code <= 126;
                due("the code " + code + " at " + at, x.put(others | (long) code << 8 * at), fine ? 8 : BAD_VALUE);
                due("then", x.count(14), fine ? 8 : 0);
            }
        }
        for (int code = 1; code < 256; code++) {
            due("the code " + code + " alone", new HoopStairs().put(code), code >= 33 && code <= 126 ? 1 : BAD_VALUE);
        }
        due("all bits", new HoopStairs().put(-1), BAD_VALUE);
        due("the lowest number", new HoopStairs().put(Long.MIN_VALUE), BAD_VALUE);
        due("the highest number", new HoopStairs().put(Long.MAX_VALUE), BAD_VALUE);
    }

    private static void bitsAboveZeroBits() {
        for (int length = 0; length < 7; length++) {
            long below = Check.packed("A".repeat(length));
            for (int bit = 8 * length + 8; bit < 64; bit++) {
                due("the bit " + bit + " above " + length, new HoopStairs().put(below | 1L << bit), BAD_VALUE);
            }
        }
        due("no such bit", new HoopStairs().put(Check.packed("AAAAAAA")), 7);
    }

    private static void longerThan80() {
        for (int length = 72; length <= 80; length++) {
            for (int more = 1; more <= 8; more++) {
                HoopStairs x = withPad("<".repeat(length));
                int then = length + more;
                due(more + " more than " + length, x.put(Check.packed(">".repeat(more))), then > 80 ? TOO_MANY : then);
                due("then", x.count(14), then > 80 ? length : then);
            }
        }
    }

    private static void wipes() {
        due("of a new object", new HoopStairs().wipe(), 0);
        for (int length : new int[] {1, 79, 80}) {
            HoopStairs x = withPad("!".repeat(length));
            due("of " + length, x.wipe(), length);
            due("then", x.count(14), 0);
            due("again", x.wipe(), 0);
            due("it has room again", Check.putText(x, "?".repeat(80)), 80);
        }
        HoopStairs x = withPad("d1;d2");
        x.wipe();
        Check.putText(x, "d3");
        due("nothing of it is left", x.carryOut(), 1);
        due("the drop", x.of(0, 1), 3);
        due("it is no change", x.count(15), 1);
    }

    // ---- fault, carryOut

    private static void noFault() {
        for (String text : new String[] {"!", "r", "d0", "h0", "g99", "d9;l9;g9;h9;r9;<;>;!", "!;".repeat(39) + "!"}) {
            faultIs(text, NONE);
        }
        HoopStairs x = withPad("d1");
        due("asked", x.fault(), NONE);
        due("asked again", x.fault(), NONE);
        x.put(';');
        due("with more", x.fault(), 3);
        x.put('r');
        due("and more", x.fault(), NONE);
        due("it is no change", x.count(15), 0);
    }

    private static void carriedOut(HoopStairs x, String text, int carried) {
        Check.putText(x, text);
        due("'" + text + "'", x.carryOut(), carried);
        due("the pad behind '" + text + "'", x.count(14), 0);
    }

    private static void upToTheFirstError() {
        for (String wrong : new String[] {"d0", "l0", "g0", "h0", "h61", "h99", "r", "r0", "r1", "r21", "r99", "<", ">",
            "!"}) {
            HoopStairs x = new HoopStairs();
            carriedOut(x, wrong + ";h5", 0);
            due("nothing behind '" + wrong + "'", x.count(1), 0);
            HoopStairs later = new HoopStairs();
            carriedOut(later, "d1;" + wrong + ";h5", 1);
            due("what is ahead of '" + wrong + "'", later.count(0), 1);
            due("nothing behind it '" + wrong + "'", later.count(1), 0);
        }
        for (String wrong : new String[] {"r0", "r21", "h0", "d0"}) {
            HoopStairs x = Worlds.rolling("g9 g9");
            carriedOut(x, "<;" + wrong + ";<", 1);
            due("with a hoop, behind '" + wrong + "'", x.ofHoop(6), 1);
            due("it rolls still", x.ofHoop(4), 0);
        }
        HoopStairs over = Worlds.rolling("g9");
        carriedOut(over, "r;r;h9", 1);
        due("no hoop behind the end of a run", over.count(1), 1);
        HoopStairs full = Worlds.manyOf(20, "g9");
        carriedOut(full, "h9;r;d1;!", 2);
        due("one part too many does not end the run", full.ofHoop(5), 0);
        due("and nothing is done behind it", full.ofHoop(7), 0);
        HoopStairs left = Worlds.rolling("g9");
        Worlds.lean(left, -500);
        left.set(HoopStairs.TAP, 1);
        for (int lean = -1; lean >= -7; lean--) {
            carriedOut(left, ">;!", 2);
            due("a lean below 0 is no error", left.ofHoop(2), lean);
        }
        carriedOut(new HoopStairs(), "d9;l1;g60;h60;r;<;>;!;r2", 9);
    }

    private static void emptiesThePad() {
        for (String text : new String[] {"d1", "d0", "d1;d0;d1", "r", "!;".repeat(39) + "!"}) {
            HoopStairs x = withPad(text);
            x.carryOut();
            due("'" + text + "', length", x.count(14), 0);
            due("'" + text + "', fault", x.fault(), 0);
            due("'" + text + "', again", x.carryOut(), BAD_TEXT);
            due("'" + text + "', it has room again", Check.putText(x, "?".repeat(80)), 80);
        }
    }

    private static void oneChange() {
        HoopStairs x = withPad("d1;d2;d3;h5;r;<;>;!");
        x.carryOut();
        due("one, with all of them", x.count(15), 1);
        due("undone", x.undo(), 0);
        due("all of them", x.count(0) + x.count(1) + x.count(9), 0);
        HoopStairs none = withPad("d0;h5");
        none.carryOut();
        due("also if none is carried out", none.count(15), 1);
        due("undone, too", none.undo(), 0);
        HoopStairs six = new HoopStairs();
        for (int i = 1; i <= 8; i++) {
            Check.putText(six, "h" + i + ";r");
            six.carryOut();
            due("six at most", six.count(15), Math.min(6, i));
        }
        HoopStairs bad = withPad("d1;");
        bad.carryOut();
        due("none if it has a fault", bad.count(15), 0);
        HoopStairs empty = new HoopStairs();
        empty.carryOut();
        due("none if it is empty", empty.count(15), 0);
    }

    private static void howManyOrders() {
        for (int orders = 1; orders <= 40; orders++) {
            HoopStairs x = Worlds.rolling("g9");
            Check.putText(x, "!" + ";!".repeat(orders - 1));
            due(orders + " orders", x.carryOut(), orders);
            due("pushes", x.ofHoop(7), orders);
        }
        HoopStairs x = withPad("r");
        due("0", x.carryOut(), 0);
        HoopStairs full = withPad("g9;".repeat(21) + "h9;r20");
        due("twenty of 23", full.carryOut(), 20);
        due("no hoop", full.count(1), 0);
        HoopStairs last = withPad("h9;!;d0");
        due("all but the last", last.carryOut(), 2);
    }

    private static void faultyPadStays() {
        for (String text : new String[] {"", "?", "d", "d1;", "d1;d1;d10", "h5;r;x", "!;".repeat(40), "?".repeat(80)}) {
            HoopStairs x = Worlds.rolling("g9 g9");
            Check.putText(x, text);
            HoopStairs twin = Worlds.rolling("g9 g9");
            Check.putText(twin, text);
            due("'" + text + "'", x.carryOut(), BAD_TEXT);
            due("'" + text + "' again", x.carryOut(), BAD_TEXT);
            due("'" + text + "' stays", x.count(14), text.length());
            Twins.areTheSame("'" + text + "'", x, twin);
        }
        HoopStairs x = withPad("d5;");
        x.carryOut();
        x.put(('l' << 8) + '6');
        due("mended", x.carryOut(), 2);
        due("with what stayed", x.of(0, 1) * 10 + x.of(1, 1), 56);
    }
}
