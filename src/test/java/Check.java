import java.lang.reflect.InvocationTargetException;
import java.lang.reflect.Method;
import java.lang.reflect.Modifier;
import java.util.ArrayList;
import java.util.Comparator;
import java.util.List;
import java.util.NoSuchElementException;

/** What the tests share: it prints each answer that is not due and ends the test with exit code 1 if there was one. */
final class Check {
    static final long THROWS = Long.MIN_VALUE;

    private static String heading = "";
    private static int wrong = 0;

    private Check() {
    }

    /** A call of the face that may throw NoSuchElementException; any other exception is a fault. */
    interface Call {
        int answer();
    }

    /** Runs the tests of one promise, which are the class's methods with a Sentence. */
    static void run(String promise, Class<?> tests) {
        List<Method> found = testsOf(tests);
        if (found.isEmpty()) {
            fault("there is no test");
        }
        for (Method test : found) {
            heading = promise + ", \"" + test.getAnnotation(Sentence.class).value() + "\", " + test.getName() + ": ";
            runOne(test);
        }
        heading = "";
        finish(tests.getName() + " (" + found.size() + (found.size() == 1 ? " test)" : " tests)"));
    }

    static void due(String call, long got, long want) {
        if (got != want) {
            fault(call + " answered " + told(got) + ", due is " + told(want));
        }
    }

    static void due(String call, boolean got, boolean want) {
        due(call, got ? 1 : 0, want ? 1 : 0);
    }

    static void due(String call, Call got, long want) {
        due(call, answerOf(got), want);
    }

    static long answerOf(Call call) {
        try {
            return call.answer();
        } catch (NoSuchElementException e) {
            return THROWS;
        }
    }

    static void finish(String test) {
        System.out.println(test + ": " + (wrong == 0 ? "all answers are as due" : wrong + " answers are not as due"));
        if (wrong != 0) {
            System.exit(1);
        }
    }

    private static void fault(String what) {
        wrong++;
        System.out.println(heading + what);
    }

    /** A test that has lost its Sentence would never run, so it counts as a fault. */
    private static List<Method> testsOf(Class<?> tests) {
        List<Method> found = new ArrayList<>();
        for (Method method : tests.getDeclaredMethods()) {
            if (method.isAnnotationPresent(Sentence.class)) {
                found.add(method);
            } else if (!Modifier.isPrivate(method.getModifiers()) && !method.getName().equals("main")) {
                fault(method + " has no Sentence");
            }
        }
        found.sort(Comparator.comparing(Method::getName));
        return found;
    }

    private static void runOne(Method test) {
        try {
            test.invoke(null);
        } catch (InvocationTargetException e) {
            fault("threw " + e.getCause());
        } catch (IllegalAccessException e) {
            fault("cannot be run: " + e);
        }
    }

    private static String told(long answer) {
        return answer == THROWS ? "throws.NoSuchElementException" : Long.toString(answer);
    }
}
