/** Counts the answers that are not as due, and tells them. */
final class Check {
    interface Call {
        long answer();
    }

    private static int checked = 0;
    private static int wrong = 0;
    private static String within = "";

    private Check() {
    }

    /** What is told before each answer that is not as due, from now on. */
    static void begin(String name) {
        within = name;
    }

    static int count() {
        return checked;
    }

    static void due(String what, long got, long want) {
        checked++;
        if (got != want) {
            wrong++;
            System.out.println(within + what + " answered " + got + ", due is " + want);
        }
    }

    static void due(String what, boolean got, boolean want) {
        due(what, got ? 1L : 0L, want ? 1L : 0L);
    }

    static void due(String what, String got, String want) {
        checked++;
        if (!got.equals(want)) {
            wrong++;
            System.out.println(within + what + " answered " + got + ", due is " + want);
        }
    }

    /** The call must throw just what the document names. */
    static void noSuch(String what, Call call) {
        due(what, told(call), "ArrayIndexOutOfBoundsException");
    }

    static String told(Call call) {
        try {
            return Long.toString(call.answer());
        } catch (RuntimeException e) {
            return e.getClass().getSimpleName();
        }
    }

    static boolean allRight() {
        return wrong == 0;
    }

    static void end() {
        System.out.println(checked + " answers looked at, " + wrong + " not as due");
        if (wrong != 0 || checked == 0) {
            System.exit(1);
        }
    }
}
