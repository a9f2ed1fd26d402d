import java.util.NoSuchElementException;

/** What the tests share: it prints each answer that is not due and ends the test with exit code 1 if there was one. */
final class Check {
    static final long THROWS = Long.MIN_VALUE;

    private static int wrong = 0;

    private Check() {
    }

    /** A call of the face that may throw NoSuchElementException; any other exception ends the test. */
    interface Call {
        int answer();
    }

    static void due(String call, long got, long want) {
        if (got != want) {
            wrong++;
            System.out.println(call + " answered " + told(got) + ", due is " + told(want));
        }
    }

    static void due(String call, boolean got, boolean want) {
        due(call, got ? 1 : 0, want ? 1 : 0);
    }

    static void due(String call, Call got, long want) {
        due(call, answerOf(got), want);
    }

    static long answerOf(Call call) {
        try {
            return call.answer();
        } catch (NoSuchElementException e) {
            return THROWS;
        }
    }

    static void finish(String test) {
        System.out.println(test + ": " + (wrong == 0 ? "all answers are as due" : wrong + " answers are not as due"));
        if (wrong != 0) {
            System.exit(1);
        }
    }

    private static String told(long answer) {
        return answer == THROWS ? "throws.NoSuchElementException" : Long.toString(answer);
    }
}
