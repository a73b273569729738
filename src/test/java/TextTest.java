/** Promises 17 to 20: the pad, its fault, and carrying its orders out. */
public final class TextTest {
    public static void main(String[] args) {
        putting();
        puttingWrongly();
        thePadIsFull();
        wiping();
        faults();
        ordersAreCarriedOut();
        ordersThatFail();
        aLeanIsNoError();
        Check.end();
    }

    private static void putting() {
        HoopStairs x = new HoopStairs();
        Check.due("17: one", x.put('d'), 1);
        Check.due("17: eight", x.put(Check.packed("3;l2;g40")), 9);
        Check.due("17: the order of the characters", x.fault(), HoopStairs.NONE);
        Check.due("17: the length", x.count(14), 9);
        Check.due("17: no change", x.count(15), 0);
        Check.due("17: the least and the greatest code", x.put(33 << 8 | 126), 11);
    }

    private static void puttingWrongly() {
        HoopStairs x = new HoopStairs();
        x.put('d');
        long[] bad = {0, 32, 127, 128, 255, -1, Long.MIN_VALUE, Long.MAX_VALUE, 'd' << 8, 'd' << 16 | 'd',
            (long) 'd' << 56, (long) 'd' << 56 | 'd', 'd' << 8 | 32, 32 << 8 | 'd', 1, 0x80 << 8 | 'd',
            1L << 63 | 'd', 0x2041414141414141L, 0x8041414141414141L, 0xFF41414141414141L};
        for (long characters : bad) {
            Check.due("17: put(" + Long.toHexString(characters) + ")", x.put(characters), HoopStairs.BAD_VALUE);
        }
        Check.due("17: nothing was put", x.count(14), 1);
        for (int code = 0; code < 256; code++) {
            HoopStairs other = new HoopStairs();
            Check.due("17: code " + code, other.put(code), code >= 33 && code <= 126 ? 1 : HoopStairs.BAD_VALUE);
        }
    }

    private static void thePadIsFull() {
        HoopStairs x = new HoopStairs();
        for (int i = 1; i <= 9; i++) {
            Check.due("17: eight more", x.put(Check.packed("<;<;<;<;")), 8 * i);
        }
        Check.due("17: seven more", x.put(Check.packed("<;<;<;<")), 79);
        Check.due("17: two are too many", x.put(Check.packed(";<")), HoopStairs.TOO_MANY);
        Check.due("17: a bad one is told first", x.put(0), HoopStairs.BAD_VALUE);
        Check.due("17: nothing was put", x.count(14), 79);
        Check.due("17: one more", x.put(';'), 80);
        Check.due("17: one too many", x.put('<'), HoopStairs.TOO_MANY);
        Check.due("17: bad ahead of too many", x.put(32), HoopStairs.BAD_VALUE);
        Check.due("19: the fault is the end of eighty", x.fault(), 80);
        Check.due("20: so nothing is carried out", x.carryOut(), HoopStairs.BAD_TEXT);
        Check.due("18: eighty", x.wipe(), 80);
        x.hoop(1);
        Check.putText(x, "!".repeat(1) + ";!".repeat(39));
        Check.due("20: forty orders", x.carryOut(), 40);
        Check.due("20: all forty", x.ofHoop(7), 40);
        Check.putText(x, "d1" + ";d1".repeat(19) + ";h5;r20;h60;r20;r");
        Check.due("20: in order", x.carryOut(), 24);
        Check.due("20: twenty parts", x.count(0), 20);
    }

    private static void wiping() {
        HoopStairs x = new HoopStairs();
        Check.due("18: empty", x.wipe(), 0);
        Check.putText(x, "d1;d2;d3;d4");
        Check.due("18: what it had", x.wipe(), 11);
        Check.due("18: then empty", x.count(14), 0);
        Check.due("18: again", x.wipe(), 0);
        Check.due("18: no change", x.count(15), 0);
        Check.putText(x, "d9");
        Check.due("18: begins anew", x.carryOut(), 1);
        Check.due("18: with what was put since", x.of(0, 1), 9);
    }

    private static void faultIs(String text, int fault) {
        HoopStairs x = new HoopStairs();
        Check.putText(x, text);
        Check.due("19: the fault of '" + text + "'", x.fault(), fault);
        Check.due("19: told again", x.fault(), fault);
        Check.due("19: the pad stays", x.count(14), text.length());
        if (fault != HoopStairs.NONE) {
            Check.due("20: '" + text + "' is bad", x.carryOut(), HoopStairs.BAD_TEXT);
            Check.due("20: the pad of '" + text + "' stays", x.count(14), text.length());
            Check.due("20: no change by '" + text + "'", x.count(15), 0);
        }
    }

    private static void faults() {
        String[] good = {"d0", "d9", "l0", "l5", "g0", "g9", "g10", "g99", "h0", "h60", "h99", "r", "r0", "r5", "r99",
            "<", ">", "!", "d1;l2;g3;h4;r;r5;<;>;!", "r;r", "r;d1"};
        for (String text : good) {
            faultIs(text, HoopStairs.NONE);
        }
        faultIs("", 0);
        String[] early = {"d", "l", "g", "h", "d1;", "r;", "g10;", "<;", "d1;l", "r5;", "!;!;"};
        for (String text : early) {
            faultIs(text, text.length());
        }
        String[] wrongAtOnce = {";", "1", "x", "D1", "~", "#", ";d1", "/", "=", "?", "\"", ":"};
        for (String text : wrongAtOnce) {
            faultIs(text, 0);
        }
        String[] wrongAtOne = {"dd", "dx1", "d;", "l;", "g;", "h;", "gx", "r;1".substring(0, 1) + "x", "r<", "<<", "!1",
            ">!", "<1", "d-1", "d/", "d:", "g/", "g:", "r/", "r:", "h-"};
        for (String text : wrongAtOne) {
            faultIs(text, 1);
        }
        String[] wrongAtTwo = {"d10", "d00", "l12", "g00", "g05", "h01", "r00", "r01", "d1d1", "g1x", "r;;", "r;1",
            "<; ".substring(0, 2) + ";", "g9:", "g9/", "d1,"};
        for (String text : wrongAtTwo) {
            faultIs(text, 2);
        }
        String[] wrongAtThree = {"g100", "g999", "h123", "r100", "g10x", "r10r", "d1;;", "d1;x", "g50:"};
        for (String text : wrongAtThree) {
            faultIs(text, 3);
        }
        faultIs("d1;l2;g3;h4;r;r5;<;>;!!", 22);
        faultIs("d1;l2;q;;", 6);
        faultIs("g5x", 2);
    }

    private static void ordersAreCarriedOut() {
        HoopStairs x = new HoopStairs();
        Check.putText(x, "d3;l2;g40;h20;<;>;>;!;!;r");
        Check.due("20: all ten", x.carryOut(), 10);
        Check.due("20: the pad is empty", x.count(14), 0);
        Check.due("20: one change", x.count(15), 1);
        int[][] parts = {{0, 3}, {1, 2}, {2, 40}};
        for (int place = 0; place < 3; place++) {
            Check.due("20: kind at " + place, x.of(place, 0), parts[place][0]);
            Check.due("20: value at " + place, x.of(place, 1), parts[place][1]);
        }
        int[] hoop = {20, 32, 500 - 8 + 4, 18, 1, 0, 3, 2};
        for (int what = 0; what < 8; what++) {
            Check.due("20: ofHoop(" + what + ")", x.ofHoop(what), hoop[what]);
        }
        Check.due("20: taps so far", x.count(9), 3);
        Check.putText(x, "r2;g5");
        Check.due("20: a number behind r", x.carryOut(), 2);
        Check.due("20: it passed", x.run(0, 1), 4);
        Check.due("20: a part came to the end", x.of(3, 1), 5);
        Check.due("20: and the run was gone", x.ofHoop(0), HoopStairs.NONE);
        Check.due("20: undone at once", x.undo(), 1);
        Check.due("20: it rolls again", x.ofHoop(4), 1);
        Check.due("20: the pad does not come back", x.count(14), 0);
    }

    private static void failsBehind(String text, int carried) {
        HoopStairs x = Check.stairOf("d1");
        Check.putText(x, text);
        Check.due("20: orders of '" + text + "'", x.carryOut(), carried);
        Check.due("20: '" + text + "' is emptied", x.count(14), 0);
        Check.due("20: '" + text + "' is one change", x.count(15), 2);
        Check.due("20: behind the error nothing of '" + text + "'", x.count(1), 0);
    }

    private static void ordersThatFail() {
        String[] atOnce = {"d0;h5", "l0;h5", "g0;h5", "h0;h5", "h61;h5", "h99;h5", "r;h5", "r0;h5", "r21;h5", "<;h5",
            ">;h5", "!;h5"};
        for (String text : atOnce) {
            failsBehind(text, 0);
        }
        failsBehind("d1;l1;g1;d0;h5", 3);
        HoopStairs x = Check.stairOf("d1");
        Check.putText(x, "h5;r20;r;h6");
        Check.due("20: a run that is over", x.carryOut(), 2);
        Check.due("20: so one run", x.count(1), 1);
        Check.putText(x, "d1" + ";d1".repeat(19) + ";h5");
        Check.due("20: too many parts", x.carryOut(), 19);
        Check.due("20: twenty", x.count(0), 20);
        Check.due("20: and no hoop", x.ofHoop(0), HoopStairs.NONE);
        Check.putText(x, "h7;r21;h8");
        Check.due("20: no roll over so many", x.carryOut(), 1);
        Check.due("20: it rolls", x.ofHoop(4), 0);
    }

    private static void aLeanIsNoError() {
        HoopStairs x = new HoopStairs();
        x.set(3, 30);
        x.hoop(1);
        for (int i = 0; i < 16; i++) {
            x.tap(1);
        }
        x.set(3, 21);
        Check.putText(x, ">;!;r");
        Check.due("20: a tap that answers -1 is carried out", x.carryOut(), 3);
        x.hoop(1);
        x.set(3, 30);
        for (int i = 0; i < 16; i++) {
            x.tap(1);
        }
        x.set(3, 20);
        x.tap(1);
        x.set(3, 1);
        for (int lean = -1; lean >= -7; lean--) {
            Check.putText(x, ">;!");
            Check.due("20: a tap to " + lean, x.carryOut(), 2);
            Check.due("20: then", x.ofHoop(2), lean);
        }
        Check.due("7: a change, whatever it answers", x.tap(1), -8);
        x.undo();
        Check.due("21: undone, too", x.ofHoop(2), -7);
    }
}
