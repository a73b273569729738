/** Compares answers with those that are due, and ends a test. */
final class Check {
    private static int wrong = 0;
    private static int asked = 0;
    private static String about = "";

    private Check() {
    }

    static void due(String call, long got, long want) {
        asked++;
        if (got != want) {
            wrong++;
            if (wrong <= 40) {
                System.out.println(about + call + " answered " + got + ", due is " + want);
            }
        }
    }

    /** What the answers from here on are looked at for; it is told with a wrong one. */
    static void lookAt(String what) {
        about = what;
    }

    static int asked() {
        return asked;
    }

    static int wrong() {
        return wrong;
    }

    static void holds(String what, boolean isSo) {
        due(what, isSo ? 1 : 0, 1);
    }

    static boolean isClean() {
        return wrong == 0;
    }

    /** Puts a text of any length on the pad, and returns the last answer. */
    static int putText(HoopStairs x, String text) {
        int answer = 0;
        for (int from = 0; from < text.length(); from += 8) {
            answer = x.put(packed(text.substring(from, Math.min(text.length(), from + 8))));
        }
        return answer;
    }

    static long packed(String text) {
        long characters = 0;
        for (int i = 0; i < text.length(); i++) {
            characters = characters << 8 | text.charAt(i);
        }
        return characters;
    }

    /** Builds a stair of parts such as "d3 l2 g40". */
    static HoopStairs stairOf(String parts) {
        HoopStairs x = new HoopStairs();
        int place = 0;
        for (String part : parts.split(" ")) {
            if (!part.isEmpty()) {
                x.part(place, "dlg".indexOf(part.charAt(0)), Integer.parseInt(part.substring(1)));
                place++;
            }
        }
        return x;
    }

    static void end() {
        System.out.println(asked + " answers looked at, " + wrong + " wrong");
        if (wrong != 0) {
            System.exit(1);
        }
    }
}
