/** Compares answers with those that are due, and ends a test with exit code 1 if one was wrong. */
final class Checks {
    private static int made = 0;
    private static int wrong = 0;

    interface Call {
        Object answer();
    }

    private Checks() {
    }

    static void due(String call, long got, long want) {
        made++;
        if (got != want) {
            tell(call + " answered " + got + ", due is " + want);
        }
    }

    static void due(String call, boolean got, boolean want) {
        due(call, got ? 1 : 0, want ? 1 : 0);
    }

    static void due(String call, double got, double want) {
        made++;
        if (Double.doubleToLongBits(got) != Double.doubleToLongBits(want)) {
            tell(call + " answered " + got + ", due is " + want);
        }
    }

    static void due(String call, String got, String want) {
        made++;
        if (!got.equals(want)) {
            tell(call + " answered " + got + ", due is " + want);
        }
    }

    /** The answer as a text, or "throws." and the exception's name. */
    static String outcome(Call call) {
        try {
            return String.valueOf(call.answer());
        } catch (RuntimeException e) {
            return "throws." + e.getClass().getSimpleName();
        }
    }

    /** The call must throw just this, and leave the house as it is. */
    static void dueThrow(HexRooms house, String call, Class<?> want, Call made) {
        long before = house.digest();
        due(call, outcome(made), "throws." + want.getSimpleName());
        due("digest() after " + call, house.digest(), before);
    }

    static void end() {
        System.out.println(made + " answers looked at, " + wrong + " of them wrong");
        if (wrong != 0) {
            System.exit(1);
        }
    }

    private static void tell(String fault) {
        wrong++;
        if (wrong <= 50) {
            System.out.println(fault);
        }
    }
}
