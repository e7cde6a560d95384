import java.util.Objects;

/** Counts the answers of one test program and prints each that is not the one that is due. */
final class Checks {
    interface Call {
        Object answer();
    }

    private static final long MOST_MILLISECONDS = 300_000;

    private int right = 0;
    private int wrong = 0;

    /** A call that does not end is a fault too. */
    Checks() {
        Thread watch = new Thread(Checks::stopLate);
        watch.setDaemon(true);
        watch.start();
    }

    private static void stopLate() {
        try {
            Thread.sleep(MOST_MILLISECONDS);
        } catch (InterruptedException e) {
            return;
        }
        System.out.println("the test did not end");
        Runtime.getRuntime().halt(1);
    }

    /** What the call answers; a class stands for an exception of exactly this class. */
    static Object answerOf(Call call) {
        try {
            return call.answer();
        } catch (RuntimeException e) {
            return e.getClass();
        }
    }

    void due(String what, Object due, Call call) {
        Object got = answerOf(call);
        if (Objects.equals(due, got)) {
            right++;
        } else {
            wrong++;
            System.out.println(what + " answered " + got + ", due is " + due);
        }
    }

    int count() {
        return right + wrong;
    }

    boolean hasManyFaults() {
        return wrong > 20;
    }

    void close() {
        System.out.println(right + " answers as due, " + wrong + " not as due");
        if (wrong != 0 || right == 0) {
            System.exit(1);
        }
    }
}
