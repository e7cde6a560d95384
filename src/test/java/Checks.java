import java.util.Objects;

/** Counts the answers of one test program and prints each that is not the one that is due. */
final class Checks {
    interface Call {
        Object answer();
    }

    private int right = 0;
    private int wrong = 0;

    /** The call answers what is due; a class stands for an exception of exactly this class. */
    void due(String what, Object due, Call call) {
        Object got;
        try {
            got = call.answer();
        } catch (RuntimeException e) {
            got = e.getClass();
        }
        if (Objects.equals(due, got)) {
            right++;
        } else {
            wrong++;
            System.out.println(what + " answered " + got + ", due is " + due);
        }
    }

    /** The call throws an exception of exactly this class and leaves all that can be seen of the game. */
    void refused(String what, Class<? extends RuntimeException> due, BridgeAuction game, Call call) {
        String before = Sight.of(game);
        due(what, due, call);
        due(what + " changes nothing", before, () -> Sight.of(game));
    }

    boolean hasManyFaults() {
        return wrong > 20;
    }

    void close() {
        System.out.println(right + " answers as due, " + wrong + " not as due");
        if (wrong != 0 || right == 0) {
            System.exit(1);
        }
    }
}
