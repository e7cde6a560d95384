import java.lang.reflect.InvocationTargetException;
import java.lang.reflect.Method;
import java.util.ArrayList;
import java.util.Arrays;
import java.util.HashMap;
import java.util.List;
import java.util.Map;
import java.util.Random;

/** Long runs of calls drawn with fixed seeds: the program answers each as the model does. */
public final class ModelTest {
    private static final int RUNS = 2500;
    private static final int CALLS = 512;
    private static final String[] QUESTIONS = {"suit", "money", "availableMoney", "isFerryUsed", "bridgeCount",
        "score", "lowerIsland", "higherIsland", "length", "buildingCost", "isBuilt", "builder", "bidCount",
        "bidAmount", "isBluff", "ferryOwner", "winningBidder", "wouldBuild", "cheapestFreeSite", "isConnected",
        "distance", "distanceByRelaxation", "componentCount", "componentCountByUnion", "forestLength",
        "forestLengthByPrim", "playerByScore", "bankMoney", "settledTotal", "bluffTotal", "meanBridgeLength",
        "builtShare", "isConsistent", "outputAt", "errorPosition", "failedCommand", "tide", "playerCount",
        "siteCount"};
    private static final String[] COMMANDS = {"player nn", "site d d d", "suit d d", "tide d", "bid d n nn",
        "bid d n n", "bluff d n nn", "bluff d n n", "ferry d n", "drop d n", "settle n", "settle n"};
    private static final String SIGNS = "abdefilnoprstuy0123456789 ;~/:";

    private final Checks checks = new Checks();
    private final Map<String, Method> methods = new HashMap<>();
    private Random random;
    private BridgeAuction game;
    private Model model;
    private List<String> calls;

    public static void main(String[] arguments) {
        ModelTest test = new ModelTest();
        for (Method method : BridgeAuction.class.getDeclaredMethods()) {
            if (java.lang.reflect.Modifier.isPublic(method.getModifiers())) {
                test.methods.put(method.getName(), method);
            }
        }
        for (int seed = 1; seed <= RUNS && !test.checks.hasManyFaults(); seed++) {
            test.run(seed);
        }
        test.checks.close();
    }

    private void run(int seed) {
        random = new Random(seed);
        game = new BridgeAuction();
        model = new Model();
        calls = new ArrayList<>();
        // A tame run draws mostly what fits, so that it gets far; a wild one does not.
        boolean tame = seed % 4 != 0;
        if (tame) {
            setUp();
        }
        while (calls.size() < CALLS && !checks.hasManyFaults()) {
            step(tame);
        }
    }

    private void setUp() {
        for (int i = 0; i < 4; i++) {
            call("addPlayer", random.nextInt(100));
        }
        for (int i = 0; i < 14; i++) {
            call("addSite", random.nextInt(8), random.nextInt(8), 1 + random.nextInt(9));
        }
    }

    private void step(boolean tame) {
        int kind = random.nextInt(100);
        if (kind < 40) {
            question(tame);
        } else if (kind < 45) {
            script();
        } else if (kind < 50) {
            housekeeping();
        } else if (kind < 58) {
            settingUp(tame);
        } else if (kind < 70 && tame) {
            takeCheaply();
        } else {
            bidding(tame);
        }
    }

    private int draw(boolean tame, int limit) {
        if (tame || random.nextInt(4) != 0) {
            return random.nextInt(limit);
        }
        int[] edges = {-1, limit, limit + 1, Integer.MIN_VALUE, Integer.MAX_VALUE};
        return edges[random.nextInt(edges.length)];
    }

    private void question(boolean tame) {
        String name = QUESTIONS[random.nextInt(QUESTIONS.length)];
        int limit = 4;
        switch (name) {
            case "suit", "isConnected", "distance", "distanceByRelaxation" -> limit = 8;
            case "lowerIsland", "higherIsland", "length", "buildingCost", "isBuilt", "builder", "bidCount",
                "ferryOwner", "winningBidder", "wouldBuild" -> limit = 12;
            case "outputAt" -> limit = 20;
            default -> limit = 4;
        }
        int second = name.startsWith("bid") || name.equals("isBluff") ? 12 : 8;
        call(name, draw(tame, limit), draw(tame, second));
    }

    private void settingUp(boolean tame) {
        switch (random.nextInt(8)) {
            case 0 -> call("addPlayer", draw(tame, 100));
            case 1, 2 -> call("addSite", draw(tame, 8), draw(tame, 8), draw(tame, 10));
            case 3, 4 -> call("setTide", draw(tame, tame ? 3 : 10));
            default -> call("setSuit", draw(tame, 8), draw(tame, 4));
        }
    }

    private void bidding(boolean tame) {
        int player = draw(tame, 4);
        int site = draw(tame, 12);
        switch (random.nextInt(8)) {
            case 0, 1 -> call("placeBid", player, site, draw(tame, random.nextBoolean() ? 100 : 20));
            case 2 -> call("placeBluff", player, site, draw(tame, random.nextBoolean() ? 100 : 20));
            case 3 -> call("withdrawBid", player, site);
            case 4, 5 -> call("playFerry", player, site);
            case 6 -> call("renderSite", site);
            default -> call("settle", site);
        }
    }

    /** Bids what the site costs, or one less or more, and often settles it. */
    private void takeCheaply() {
        int site = random.nextInt(12);
        if (site < (int) model.call("siteCount")) {
            int cost = (int) model.call("buildingCost", site);
            call("placeBid", random.nextInt(4), site, cost + random.nextInt(3) - 1);
            if (random.nextBoolean()) {
                call("settle", site);
            }
        }
    }

    private void housekeeping() {
        switch (random.nextInt(6)) {
            case 0 -> call("save");
            case 1 -> call("restore");
            case 2 -> call("type", draw(false, 128));
            case 3 -> {
                for (int i = random.nextInt(11); i >= 0; i--) {
                    call("undo");
                }
            }
            default -> call("undo");
        }
    }

    private void script() {
        StringBuilder text = new StringBuilder();
        for (int i = random.nextInt(6); i >= 0; i--) {
            text.append(command()).append(i > 0 ? ";" : "");
        }
        for (int faults = random.nextInt(8) - 6; faults > 0; faults--) {
            spoil(text);
        }
        for (int i = 0; i < text.length(); i++) {
            call("type", text.charAt(i));
        }
        call("runScript");
        call("errorPosition");
        call("failedCommand");
    }

    private String command() {
        StringBuilder text = new StringBuilder();
        String form = COMMANDS[random.nextInt(COMMANDS.length)];
        int blank = form.indexOf(' ');
        text.append(form, 0, blank);
        for (char sign : form.substring(blank).toCharArray()) {
            boolean small = random.nextInt(8) != 0;
            text.append(sign == ' ' ? " " : Integer.toString(random.nextInt(sign == 'd' && small ? 5 : 10)));
        }
        return text.toString();
    }

    private void spoil(StringBuilder text) {
        int at = random.nextInt(text.length() + 1);
        char sign = SIGNS.charAt(random.nextInt(SIGNS.length()));
        switch (random.nextInt(4)) {
            case 0 -> text.insert(at, sign);
            case 1 -> text.setLength(at);
            default -> {
                if (at < text.length()) {
                    text.setCharAt(at, sign);
                } else {
                    text.append(sign);
                }
            }
        }
    }

    /** Nothing is promised of an object after its 512th call, so there is none. */
    private void call(String name, int... drawn) {
        if (calls.size() == CALLS) {
            return;
        }
        Method method = methods.get(name);
        int[] arguments = Arrays.copyOf(drawn, method.getParameterCount());
        calls.add(name + Arrays.toString(arguments));
        Object due = Checks.answerOf(() -> model.call(name, arguments));
        Object got = Checks.answerOf(() -> invoke(method, arguments));
        if (!due.equals(got)) {
            System.out.println("after " + String.join(" ", calls));
        }
        checks.due(name + Arrays.toString(arguments), due, () -> got);
    }

    private Object invoke(Method method, int[] arguments) {
        Object[] boxed = new Object[arguments.length];
        for (int i = 0; i < boxed.length; i++) {
            boolean sign = method.getParameterTypes()[i] == char.class;
            boxed[i] = sign ? (Object) (char) arguments[i] : (Object) arguments[i];
        }
        try {
            return method.invoke(game, boxed);
        } catch (InvocationTargetException e) {
            if (e.getCause() instanceof RuntimeException cause) {
                throw cause;
            }
            throw new AssertionError(e);
        } catch (IllegalAccessException e) {
            throw new AssertionError(e);
        }
    }
}
