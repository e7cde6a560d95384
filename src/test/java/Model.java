import java.util.ArrayDeque;
import java.util.ArrayList;
import java.util.Comparator;
import java.util.Deque;
import java.util.HashMap;
import java.util.List;
import java.util.Map;
import java.util.NoSuchElementException;
import java.util.TreeMap;
import java.util.regex.Matcher;
import java.util.regex.Pattern;

/**
 * The document once more, with the Java library and by other ways than the program: bids in maps, distances of all
 * pairs at once, forests by taking edges away, scripts by regular expressions.
 */
final class Model {
    private static final int FAR = 1_000_000;
    private static final String NUMBER = "[0-9][0-9]?";
    private static final String COMMAND = "(?:player " + NUMBER + "|site [0-9] [0-9] [0-9]|suit [0-9] [0-9]|tide [0-9]"
            + "|(?:bid|bluff) [0-9] " + NUMBER + " " + NUMBER + "|(?:ferry|drop) [0-9] " + NUMBER
            + "|settle " + NUMBER + ")";
    private static final Pattern SCRIPT = Pattern.compile(COMMAND + "(?:;" + COMMAND + ")*");

    private record Bid(int amount, boolean bluff) {
    }

    private static final class Site {
        int low;
        int high;
        int length;
        Integer builder;
        Integer ferry;
        TreeMap<Integer, Bid> bids = new TreeMap<>();

        Site copy() {
            Site copy = new Site();
            copy.low = low;
            copy.high = high;
            copy.length = length;
            copy.builder = builder;
            copy.ferry = ferry;
            copy.bids = new TreeMap<>(bids);
            return copy;
        }
    }

    private static final class State {
        int[] suits = {0, 1, 2, 3, 0, 1, 2, 3};
        int tide;
        List<Integer> moneys = new ArrayList<>();
        List<Boolean> ferries = new ArrayList<>();
        List<Site> sites = new ArrayList<>();
        int bank;
        int settled;
        int bluffs;

        State copy() {
            State copy = new State();
            copy.suits = suits.clone();
            copy.tide = tide;
            copy.moneys = new ArrayList<>(moneys);
            copy.ferries = new ArrayList<>(ferries);
            for (Site site : sites) {
                copy.sites.add(site.copy());
            }
            copy.bank = bank;
            copy.settled = settled;
            copy.bluffs = bluffs;
            return copy;
        }
    }

    private State now = new State();
    private State saved = null;
    private final Deque<State> past = new ArrayDeque<>();
    private String output = "";
    private final StringBuilder buffer = new StringBuilder();
    private Integer errorPosition = null;
    private Integer failedCommand = null;

    /** Answers a call of the face; a boolean counts true or false, a character as such. */
    Object call(String name, int... a) {
        switch (name) {
            case "addPlayer", "addSite", "setSuit", "setTide", "placeBid", "placeBluff", "withdrawBid", "playFerry",
                    "settle":
                State before = now.copy();
                Object answer = change(name, a);
                remember(before);
                return answer;
            case "runScript":
                return runScript();
            case "type":
                return type((char) a[0]);
            case "renderSite":
                output = rendered(site(a[0]));
                return output.length();
            case "undo":
                return undo();
            case "save":
                saved = now.copy();
                return now.moneys.size();
            case "restore":
                return restore();
            default:
                return question(name, a);
        }
    }

    private Object question(String name, int[] a) {
        switch (name) {
            case "suit":
                return now.suits[island(a[0])];
            case "tide":
                return now.tide;
            case "playerCount":
                return now.moneys.size();
            case "money":
                return now.moneys.get(player(a[0]));
            case "availableMoney":
                return available(player(a[0]));
            case "isFerryUsed":
                return now.ferries.get(player(a[0]));
            case "bridgeCount":
                int builder = player(a[0]);
                return (int) built().stream().filter(s -> s.builder == builder).count();
            case "score":
                return score(player(a[0]));
            case "siteCount":
                return now.sites.size();
            case "cheapestFreeSite":
                return cheapest();
            case "playerByScore":
                return byScore(a[0]);
            case "bankMoney":
                return now.bank;
            case "settledTotal":
                return now.settled;
            case "bluffTotal":
                return now.bluffs;
            case "isConsistent":
                return true;
            case "errorPosition":
                return found(errorPosition);
            case "failedCommand":
                return found(failedCommand);
            case "outputAt":
                index(a[0] >= 0 && a[0] < output.length());
                return output.charAt(a[0]);
            case "meanBridgeLength", "builtShare":
                return share(name);
            case "isConnected", "distance", "distanceByRelaxation", "componentCount", "componentCountByUnion",
                    "forestLength", "forestLengthByPrim":
                return graph(name, a);
            default:
                return siteQuestion(name, a);
        }
    }

    private Object siteQuestion(String name, int[] a) {
        if (name.equals("bidAmount") || name.equals("isBluff")) {
            player(a[0]);
            Bid bid = site(a[1]).bids.get(a[0]);
            found(bid);
            return name.equals("isBluff") ? (Object) bid.bluff() : (Object) bid.amount();
        }
        Site site = site(a[0]);
        switch (name) {
            case "lowerIsland":
                return site.low;
            case "higherIsland":
                return site.high;
            case "length":
                return site.length;
            case "buildingCost":
                return site.length + now.tide;
            case "isBuilt":
                return site.builder != null;
            case "builder":
                return found(site.builder);
            case "bidCount":
                return site.bids.size();
            case "ferryOwner":
                return found(site.ferry);
            case "winningBidder":
                return found(winner(site));
            case "wouldBuild":
                state(site.builder == null);
                Bid bid = site.bids.get(found(winner(site)));
                return !bid.bluff() && bid.amount() >= site.length + now.tide;
            default:
                throw new AssertionError("no such call: " + name);
        }
    }

    // ---- changes

    private Object change(String name, int[] a) {
        switch (name) {
            case "addPlayer":
                return addPlayer(a[0]);
            case "addSite":
                return addSite(a[0], a[1], a[2]);
            case "setSuit":
                island(a[0]);
                argument(a[1] >= 0 && a[1] <= 3);
                int suit = now.suits[a[0]];
                now.suits[a[0]] = a[1];
                return suit;
            case "setTide":
                argument(a[0] >= 0 && a[0] <= 9);
                int level = now.tide;
                now.tide = a[0];
                return level;
            case "placeBid":
                return place(a[0], a[1], a[2], false);
            case "placeBluff":
                return place(a[0], a[1], a[2], true);
            case "withdrawBid":
                return withdraw(a[0], a[1]);
            case "playFerry":
                return ferry(a[0], a[1]);
            default:
                return settle(a[0]);
        }
    }

    private int addPlayer(int money) {
        argument(money >= 0 && money <= 99);
        state(now.moneys.size() < 4);
        now.moneys.add(money);
        now.ferries.add(false);
        return now.moneys.size() - 1;
    }

    private int addSite(int first, int second, int length) {
        island(first);
        island(second);
        argument(first != second && length >= 1 && length <= 9);
        for (Site other : now.sites) {
            boolean same = other.low == first && other.high == second || other.low == second && other.high == first;
            supported(!same);
        }
        state(now.sites.size() < 12);
        Site site = new Site();
        site.low = first < second ? first : second;
        site.high = first < second ? second : first;
        site.length = length;
        now.sites.add(site);
        return now.sites.size() - 1;
    }

    private int place(int player, int index, int amount, boolean bluff) {
        player(player);
        Site site = site(index);
        argument(amount >= 1 && amount <= 99);
        state(site.builder == null);
        for (Bid bid : site.bids.values()) {
            supported(amount > bid.amount());
        }
        Bid earlier = site.bids.remove(player);
        if (!bluff && available(player) < amount) {
            if (earlier != null) {
                site.bids.put(player, earlier);
            }
            throw new UnsupportedOperationException();
        }
        site.bids.put(player, new Bid(amount, bluff));
        return bluff ? site.bids.size() : available(player);
    }

    private int withdraw(int player, int index) {
        player(player);
        Site site = site(index);
        found(site.bids.get(player));
        state(site.ferry == null || site.ferry != player);
        return site.bids.remove(player).amount();
    }

    private int ferry(int player, int index) {
        player(player);
        Site site = site(index);
        Bid own = site.bids.get(player);
        found(own);
        state(!now.ferries.get(player) && site.ferry == null);
        supported(now.suits[site.low] == player || now.suits[site.high] == player);
        site.ferry = player;
        now.ferries.set(player, true);
        return (int) site.bids.values().stream().filter(bid -> bid.amount() > own.amount()).count();
    }

    private boolean settle(int index) {
        Site site = site(index);
        state(site.builder == null);
        int winner = found(winner(site));
        Bid bid = site.bids.get(winner);
        site.bids.clear();
        site.ferry = null;
        now.settled++;
        int price = bid.amount();
        if (bid.bluff()) {
            now.bluffs++;
            price = available(winner) < 5 ? available(winner) : 5;
        } else if (bid.amount() >= site.length + now.tide) {
            site.builder = winner;
        }
        now.moneys.set(winner, now.moneys.get(winner) - price);
        now.bank += price;
        return site.builder != null;
    }

    // ---- scripts, undo and the snapshot

    private int type(char character) {
        argument(character >= ' ' && character <= '~');
        state(buffer.length() < 60);
        buffer.append(character);
        return buffer.length();
    }

    private int runScript() {
        String text = buffer.toString();
        buffer.setLength(0);
        if (!SCRIPT.matcher(text).matches()) {
            errorPosition = firstWrong(text);
            throw new IllegalArgumentException();
        }
        State before = now.copy();
        String[] commands = text.split(";");
        for (int i = 0; i < commands.length; i++) {
            try {
                command(commands[i].split(" "));
            } catch (RuntimeException e) {
                now = before;
                failedCommand = i;
                throw new IllegalStateException();
            }
        }
        remember(before);
        return commands.length;
    }

    /** A prefix that can go on leaves the matcher wanting more at its end. */
    private static int firstWrong(String text) {
        for (int end = 1; end <= text.length(); end++) {
            Matcher matcher = SCRIPT.matcher(text.substring(0, end));
            if (!matcher.matches() && !matcher.hitEnd()) {
                return end - 1;
            }
        }
        return text.length();
    }

    private void command(String[] words) {
        Map<String, String> methods = new HashMap<>();
        methods.put("player", "addPlayer");
        methods.put("site", "addSite");
        methods.put("suit", "setSuit");
        methods.put("tide", "setTide");
        methods.put("bid", "placeBid");
        methods.put("bluff", "placeBluff");
        methods.put("ferry", "playFerry");
        methods.put("drop", "withdrawBid");
        methods.put("settle", "settle");
        int[] numbers = new int[words.length - 1];
        for (int i = 1; i < words.length; i++) {
            numbers[i - 1] = Integer.parseInt(words[i]);
        }
        change(methods.get(words[0]), numbers);
    }

    private void remember(State before) {
        past.push(before);
        if (past.size() > 8) {
            past.removeLast();
        }
    }

    private int undo() {
        found(past.peek());
        now = past.pop();
        return past.size();
    }

    private int restore() {
        state(saved != null);
        now = saved.copy();
        past.clear();
        return now.moneys.size();
    }

    // ---- what the state tells

    private int available(int player) {
        int available = now.moneys.get(player);
        for (Site site : now.sites) {
            Bid bid = site.bids.get(player);
            if (bid != null && !bid.bluff()) {
                available -= bid.amount();
            }
        }
        return available;
    }

    private List<Site> built() {
        List<Site> built = new ArrayList<>(now.sites);
        built.removeIf(site -> site.builder == null);
        return built;
    }

    private int score(int player) {
        int score = 0;
        for (Site site : built()) {
            if (site.builder == player) {
                score += now.suits[site.low] == now.suits[site.high] ? site.length + 3 : site.length;
            }
        }
        return score;
    }

    private static Integer winner(Site site) {
        if (site.ferry != null || site.bids.isEmpty()) {
            return site.ferry;
        }
        Comparator<Map.Entry<Integer, Bid>> byAmount = Comparator.comparing(entry -> entry.getValue().amount());
        return site.bids.entrySet().stream().max(byAmount).get().getKey();
    }

    private int cheapest() {
        List<Site> free = new ArrayList<>(now.sites);
        free.removeIf(site -> site.builder != null);
        free.sort(Comparator.comparing(site -> site.length));
        found(free.isEmpty() ? null : 0);
        return now.sites.indexOf(free.get(0));
    }

    private int byScore(int rank) {
        List<Integer> players = new ArrayList<>();
        for (int i = 0; i < now.moneys.size(); i++) {
            players.add(i);
        }
        players.sort(Comparator.<Integer>comparingInt(p -> -score(p)).thenComparingInt(p -> -now.moneys.get(p)));
        found(rank >= 0 && rank < players.size() ? rank : null);
        return players.get(rank);
    }

    private Object share(String name) {
        int count = name.equals("builtShare") ? now.sites.size() : built().size();
        if (count == 0) {
            throw new ArithmeticException();
        }
        if (name.equals("builtShare")) {
            return (float) built().size() / (float) count;
        }
        return (double) built().stream().mapToInt(site -> site.length).sum() / (double) count;
    }

    private static String rendered(Site site) {
        String text = site.low + "-" + site.high + "/" + site.length;
        if (site.builder != null) {
            return text + "=" + site.builder;
        }
        for (Map.Entry<Integer, Bid> entry : site.bids.entrySet()) {
            Bid bid = entry.getValue();
            boolean ferry = site.ferry != null && site.ferry.equals(entry.getKey());
            text += " " + entry.getKey() + ":" + bid.amount() + (bid.bluff() ? "?" : "") + (ferry ? "*" : "");
        }
        return text;
    }

    // ---- the graph

    private Object graph(String name, int[] a) {
        int[][] distances = distances(built());
        switch (name) {
            case "isConnected":
                return distances[island(a[0])][island(a[1])] < FAR;
            case "distance", "distanceByRelaxation":
                int distance = distances[island(a[0])][island(a[1])];
                return found(distance < FAR ? distance : null);
            case "componentCount", "componentCountByUnion":
                return components(distances);
            default:
                return forest();
        }
    }

    /** Floyd and Warshall. */
    private static int[][] distances(List<Site> edges) {
        int[][] distances = new int[8][8];
        for (int i = 0; i < 8; i++) {
            for (int j = 0; j < 8; j++) {
                distances[i][j] = i == j ? 0 : FAR;
            }
        }
        for (Site edge : edges) {
            distances[edge.low][edge.high] = edge.length;
            distances[edge.high][edge.low] = edge.length;
        }
        for (int via = 0; via < 8; via++) {
            for (int i = 0; i < 8; i++) {
                for (int j = 0; j < 8; j++) {
                    distances[i][j] = Math.min(distances[i][j], distances[i][via] + distances[via][j]);
                }
            }
        }
        return distances;
    }

    private static int components(int[][] distances) {
        int count = 0;
        for (int i = 0; i < 8; i++) {
            boolean lowest = true;
            for (int j = 0; j < i; j++) {
                lowest &= distances[i][j] >= FAR;
            }
            count += lowest ? 1 : 0;
        }
        return count;
    }

    /** Takes the longest edges away that connect nothing that is not connected without them. */
    private int forest() {
        List<Site> edges = built();
        int due = components(distances(edges));
        List<Site> longestFirst = new ArrayList<>(edges);
        longestFirst.sort(Comparator.comparing(site -> -site.length));
        for (Site edge : longestFirst) {
            edges.remove(edge);
            if (components(distances(edges)) != due) {
                edges.add(edge);
            }
        }
        return edges.stream().mapToInt(site -> site.length).sum();
    }

    // ---- what a call refuses

    private static int island(int island) {
        index(island >= 0 && island <= 7);
        return island;
    }

    private int player(int player) {
        index(player >= 0 && player < now.moneys.size());
        return player;
    }

    private Site site(int site) {
        index(site >= 0 && site < now.sites.size());
        return now.sites.get(site);
    }

    private static void index(boolean fine) {
        if (!fine) {
            throw new IndexOutOfBoundsException();
        }
    }

    private static void argument(boolean fine) {
        if (!fine) {
            throw new IllegalArgumentException();
        }
    }

    private static void state(boolean fine) {
        if (!fine) {
            throw new IllegalStateException();
        }
    }

    private static void supported(boolean fine) {
        if (!fine) {
            throw new UnsupportedOperationException();
        }
    }

    private static <T> T found(T thing) {
        if (thing == null) {
            throw new NoSuchElementException();
        }
        return thing;
    }
}
