import java.lang.reflect.InvocationTargetException;
import java.lang.reflect.Method;
import java.util.Map;
import java.util.TreeMap;

/** Compares answers with those that are due, and ends a test with exit code 1 if one was wrong. */
final class Checks {
    private static final int MOST_TOLD_OF_A_TEST = 20;

    private static int made = 0;
    private static int wrong = 0;
    /** The test that runs, told ahead of each fault, and how many of its faults were told. */
    private static String running = "";
    private static int told = 0;

    interface Call {
        Object answer();
    }

    private Checks() {
    }

    static void due(String call, long got, long want) {
        made++;
        if (got != want) {
            tell(call + " answered " + got + ", due is " + want);
        }
    }

    static void due(String call, boolean got, boolean want) {
        due(call, got ? 1 : 0, want ? 1 : 0);
    }

    static void due(String call, double got, double want) {
        made++;
        if (Double.doubleToLongBits(got) != Double.doubleToLongBits(want)) {
            tell(call + " answered " + got + ", due is " + want);
        }
    }

    static void due(String call, String got, String want) {
        made++;
        if (!got.equals(want)) {
            tell(call + " answered " + got + ", due is " + want);
        }
    }

    /** The answer as a text, or "throws." and the exception's name. */
    static String outcome(Call call) {
        try {
            return String.valueOf(call.answer());
        } catch (RuntimeException e) {
            return "throws." + e.getClass().getSimpleName();
        }
    }

    /** The call must throw just this, and leave the house as it is. */
    static void dueThrow(HexRooms house, String call, Class<?> want, Call made) {
        long before = house.digest();
        due(call, outcome(made), "throws." + want.getSimpleName());
        due("digest() after " + call, house.digest(), before);
    }

    /**
     * Runs each method of the class that is named promiseN_.., and ends the test. Found by their
     * names, so that none can be forgotten; each promise from the first to the last must have one.
     */
    static void runTests(Class<?> tests, int first, int last) {
        Map<String, Method> found = new TreeMap<>();
        for (Method method : tests.getDeclaredMethods()) {
            if (method.getName().matches("promise\\d+_\\w+")) {
                found.put(method.getName(), method);
            }
        }
        for (int promise = first; promise <= last; promise++) {
            String prefix = "promise" + promise + "_";
            boolean any = found.keySet().stream().anyMatch(name -> name.startsWith(prefix));
            due("a test is named " + prefix + "..", any, true);
        }
        found.forEach(Checks::runTest);
        System.out.println(found.size() + " tests of the promises " + first + " to " + last);
        end();
    }

    static void end() {
        System.out.println(made + " answers looked at, " + wrong + " of them wrong");
        if (wrong != 0) {
            System.exit(1);
        }
    }

    private static void runTest(String name, Method test) {
        running = name + ": ";
        told = 0;
        int before = made;
        try {
            test.invoke(null);
        } catch (InvocationTargetException e) {
            tell("ended with " + e.getCause());
        } catch (IllegalAccessException e) {
            tell("can't be run: " + e);
        }
        if (made == before) {
            tell("looked at no answer");
        }
        running = "";
    }

    private static void tell(String fault) {
        wrong++;
        told++;
        if (told <= MOST_TOLD_OF_A_TEST) {
            System.out.println(running + fault);
        }
    }
}
