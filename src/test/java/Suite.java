import java.lang.reflect.InvocationTargetException;
import java.lang.reflect.Method;
import java.util.Arrays;
import java.util.Comparator;
import java.util.NoSuchElementException;

/** A test program of which each method that quotes a sentence is one test. */
abstract class Suite {
    static final Class<IndexOutOfBoundsException> INDEX = IndexOutOfBoundsException.class;
    static final Class<IllegalArgumentException> ARGUMENT = IllegalArgumentException.class;
    static final Class<IllegalStateException> STATE = IllegalStateException.class;
    static final Class<UnsupportedOperationException> UNSUPPORTED = UnsupportedOperationException.class;
    static final Class<NoSuchElementException> ELEMENT = NoSuchElementException.class;
    static final Class<ArithmeticException> ARITHMETIC = ArithmeticException.class;

    interface Deed {
        Object on(BridgeAuction game);
    }

    interface ByIndex {
        Object on(BridgeAuction game, int index);
    }

    private final Checks checks = new Checks();
    private String test = "";

    final void run() {
        Method[] methods = getClass().getDeclaredMethods();
        Arrays.sort(methods, Comparator.comparing(Method::getName));
        for (Method method : methods) {
            if (method.getAnnotationsByType(Sentence.class).length > 0) {
                run(method);
            }
        }
        checks.close();
    }

    private void run(Method method) {
        test = method.getName();
        int before = checks.count();
        due("comes to its end", "", () -> invoke(method));
        due("asks something", true, () -> checks.count() > before + 1);
    }

    private String invoke(Method method) {
        try {
            method.invoke(this);
            return "";
        } catch (InvocationTargetException e) {
            return e.getCause().toString();
        } catch (IllegalAccessException e) {
            return e.toString();
        }
    }

    final void due(String what, Object due, Checks.Call call) {
        checks.due(test + ": " + what, due, call);
    }

    /** The call answers so, or throws exactly this exception, as the first call after the start. */
    final void answers(String what, Object due, Start start, Deed deed) {
        BridgeAuction game = start.make();
        due(what, due, () -> deed.on(game));
    }

    /** The call throws exactly this exception and leaves all that a game can hold. */
    final void refused(String what, Class<? extends RuntimeException> due, Start start, Deed deed) {
        refusedAsIs(what, due, start, deed);
        refusedAsIs(what + ", traced", due, Games.traced(start), deed);
    }

    /** For calls that a script or a snapshot left by an earlier one would answer otherwise. */
    final void refusedAsIs(String what, Class<? extends RuntimeException> due, Start start, Deed deed) {
        answers(what, due, start, deed);
        Start touched = start.then(game -> Checks.answerOf(() -> deed.on(game)));
        for (Look look : Look.values()) {
            due(what + " leaves " + look, look.at(start.make()), () -> look.at(touched.make()));
        }
    }

    final void failing(String script, int command, Start start) {
        refusedScript(script, start, STATE, ELEMENT, command);
    }

    /** The script is refused and leaves all but what errorPosition and failedCommand tell of it. */
    final void refusedScript(String script, Start start, Class<? extends RuntimeException> due, Object position,
            Object command) {
        String what = "'" + script + "'";
        Start typed = start.then(game -> Games.typeAll(game, script));
        answers(what, due, typed, BridgeAuction::runScript);
        Start refused = typed.then(game -> Checks.answerOf(game::runScript));
        answers("error position of " + what, position, refused, BridgeAuction::errorPosition);
        answers("failed command of " + what, command, refused, BridgeAuction::failedCommand);
        for (Look look : Look.values()) {
            due(what + " leaves " + look, withoutTraces(look.at(start.make())),
                    () -> withoutTraces(look.at(refused.make())));
        }
    }

    private static String withoutTraces(String sight) {
        return sight.replaceAll("(errorPosition|failedCommand)=\\w+", "");
    }

    final void noSuchIsland(ByIndex call) {
        outside("island", 8, Games.EMPTY, call);
        outside("island", 8, Games.BUSY, call);
    }

    final void noSuchPlayer(ByIndex call) {
        outside("player", 0, Games.EMPTY, call);
        outside("player", 3, Games.THREE, call);
        outside("player", 4, Games.BUSY, call);
        outside("player", 4, Games.FULL, call);
    }

    final void noSuchSite(ByIndex call) {
        outside("site", 0, Games.EMPTY, call);
        outside("site", 3, Games.THREE, call);
        outside("site", 3, Games.BUSY, call);
        outside("site", 12, Games.FULL, call);
    }

    private void outside(String what, int count, Start start, ByIndex call) {
        int[] wrong = {-1, count, count + 1, 12, 32, 256, 65536, Integer.MIN_VALUE, Integer.MAX_VALUE};
        for (int index : wrong) {
            refused(what + " " + index + " of " + count, INDEX, start, game -> call.on(game, index));
        }
        for (int i = 0; i < count; i++) {
            int index = i;
            answers(what + " " + index + " of " + count + " is none", false, start,
                    game -> Checks.answerOf(() -> call.on(game, index)) == INDEX);
        }
    }
}
