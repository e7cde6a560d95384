import java.util.Arrays;
import java.util.NoSuchElementException;

/**
 * An auction game on an undirected graph: players place bids for bridge sites between islands, bluff, trump higher
 * bids with ferries, and build the bridges that connect the islands.
 */
public final class BridgeAuction {
    private static final int NONE = -1;
    private static final int ISLANDS = 8;
    private static final int SUITS = 4;
    private static final int PLAYER_LIMIT = 4;
    private static final int SITE_LIMIT = 12;
    private static final int LENGTH_LIMIT = 9;
    private static final int TIDE_LIMIT = 9;
    private static final int MONEY_LIMIT = 99;
    private static final int AMOUNT_LIMIT = 99;
    private static final int PENALTY = 5;
    private static final int SAME_SUIT_BONUS = 3;
    private static final int UNDO_LIMIT = 8;
    private static final int SCRIPT_LIMIT = 60;
    private static final int ARGUMENT_LIMIT = 3;
    private static final char FIRST_SIGN = 32;
    private static final char LAST_SIGN = 126;
    /** Longer than any path: seven edges of length nine are 63. */
    private static final int FAR = 1000;

    private final Game game = new Game();
    private final Game snapshot = new Game();
    private final Game trial = new Game();
    private final Graph graph = new Graph();
    private final History history = new History();
    private final Script script = new Script();
    private final StringBuilder output = new StringBuilder();
    private boolean hasSnapshot = false;
    private int errorPosition = NONE;
    private int failedCommand = NONE;

    public BridgeAuction() {
    }

    // ---- setting up

    public int addPlayer(int money) throws IllegalArgumentException, IllegalStateException {
        return change(Verb.PLAYER, money, 0, 0);
    }

    public int addSite(int first, int second, int length) throws IndexOutOfBoundsException, IllegalArgumentException,
            UnsupportedOperationException, IllegalStateException {
        return change(Verb.SITE, first, second, length);
    }

    public int setSuit(int island, int suit) throws IndexOutOfBoundsException, IllegalArgumentException {
        return change(Verb.SUIT, island, suit, 0);
    }

    public int setTide(int level) throws IllegalArgumentException {
        return change(Verb.TIDE, level, 0, 0);
    }

    // ---- bidding

    public int placeBid(int player, int site, int amount) throws IndexOutOfBoundsException, IllegalArgumentException,
            IllegalStateException, UnsupportedOperationException {
        return change(Verb.BID, player, site, amount);
    }

    public int placeBluff(int player, int site, int amount) throws IndexOutOfBoundsException,
            IllegalArgumentException, IllegalStateException, UnsupportedOperationException {
        return change(Verb.BLUFF, player, site, amount);
    }

    public int withdrawBid(int player, int site) throws IndexOutOfBoundsException, NoSuchElementException,
            IllegalStateException {
        return change(Verb.DROP, player, site, 0);
    }

    public int playFerry(int player, int site) throws IndexOutOfBoundsException, NoSuchElementException,
            IllegalStateException, UnsupportedOperationException {
        return change(Verb.FERRY, player, site, 0);
    }

    public boolean settle(int site) throws IndexOutOfBoundsException, IllegalStateException, NoSuchElementException {
        return change(Verb.SETTLE, site, 0, 0) == 1;
    }

    // ---- islands, players, sites

    public int suit(int island) throws IndexOutOfBoundsException {
        requireIsland(island);
        return game.suits[island];
    }

    public int tide() {
        return game.tideLevel;
    }

    public int playerCount() {
        return game.players;
    }

    public int money(int player) throws IndexOutOfBoundsException {
        requirePlayer(player);
        return game.moneys[player];
    }

    public int availableMoney(int player) throws IndexOutOfBoundsException {
        requirePlayer(player);
        return game.availableTo(player);
    }

    public boolean isFerryUsed(int player) throws IndexOutOfBoundsException {
        requirePlayer(player);
        return game.hasUsedFerry(player);
    }

    public int bridgeCount(int player) throws IndexOutOfBoundsException {
        requirePlayer(player);
        return game.bridgesOf(player);
    }

    public int score(int player) throws IndexOutOfBoundsException {
        requirePlayer(player);
        return game.scoreOf(player);
    }

    public int siteCount() {
        return game.sites;
    }

    public int lowerIsland(int site) throws IndexOutOfBoundsException {
        requireSite(site);
        return game.lowers[site];
    }

    public int higherIsland(int site) throws IndexOutOfBoundsException {
        requireSite(site);
        return game.highers[site];
    }

    public int length(int site) throws IndexOutOfBoundsException {
        requireSite(site);
        return game.lengths[site];
    }

    public int buildingCost(int site) throws IndexOutOfBoundsException {
        requireSite(site);
        return game.costOf(site);
    }

    public boolean isBuilt(int site) throws IndexOutOfBoundsException {
        requireSite(site);
        return game.hasBridge(site);
    }

    public int builder(int site) throws IndexOutOfBoundsException, NoSuchElementException {
        requireSite(site);
        requireFound(game.builders[site]);
        return game.builders[site];
    }

    public int bidCount(int site) throws IndexOutOfBoundsException {
        requireSite(site);
        return game.bidsAbove(site, 0);
    }

    public int bidAmount(int player, int site) throws IndexOutOfBoundsException, NoSuchElementException {
        requireBid(player, site);
        return game.amountOf(player, site);
    }

    public boolean isBluff(int player, int site) throws IndexOutOfBoundsException, NoSuchElementException {
        requireBid(player, site);
        return game.hasBluff(player, site);
    }

    public int ferryOwner(int site) throws IndexOutOfBoundsException, NoSuchElementException {
        requireSite(site);
        requireFound(game.ferries[site]);
        return game.ferries[site];
    }

    public int winningBidder(int site) throws IndexOutOfBoundsException, NoSuchElementException {
        requireSite(site);
        int winner = game.winnerOf(site);
        requireFound(winner);
        return winner;
    }

    public boolean wouldBuild(int site) throws IndexOutOfBoundsException, IllegalStateException,
            NoSuchElementException {
        refuseUnlessFine(game.judge(Verb.SETTLE, site, 0, 0));
        return game.buildsWith(game.winnerOf(site), site);
    }

    public int cheapestFreeSite() throws NoSuchElementException {
        int cheapest = game.cheapestWithoutBridge();
        requireFound(cheapest);
        return cheapest;
    }

    // ---- the graph

    public boolean isConnected(int first, int second) throws IndexOutOfBoundsException {
        requireIsland(first);
        requireIsland(second);
        return Graph.reaches(game, first, second);
    }

    public int distance(int first, int second) throws IndexOutOfBoundsException, NoSuchElementException {
        requireIsland(first);
        requireIsland(second);
        graph.searchNearest(game, first);
        return requireNear(graph.nearest[second]);
    }

    public int distanceByRelaxation(int first, int second) throws IndexOutOfBoundsException, NoSuchElementException {
        requireIsland(first);
        requireIsland(second);
        graph.relaxFrom(game, first);
        return requireNear(graph.relaxed[second]);
    }

    public int componentCount() {
        return Graph.countBySearch(game);
    }

    public int componentCountByUnion() {
        return graph.countByJoining(game);
    }

    public int forestLength() {
        return graph.kruskalLength(game);
    }

    public int forestLengthByPrim() {
        return Graph.primLength(game);
    }

    // ---- totals, ranks, checks

    public int playerByScore(int rank) throws NoSuchElementException {
        int player = game.playerAtRank(rank);
        requireFound(player);
        return player;
    }

    public int bankMoney() {
        return game.bank;
    }

    public int settledTotal() {
        return game.settlings;
    }

    public int bluffTotal() {
        return game.wonBluffs;
    }

    public double meanBridgeLength() throws ArithmeticException {
        int bridges = game.bridges();
        if (bridges == 0) {
            throw new ArithmeticException("no site is built");
        }
        return (double) game.bridgeLengths() / (double) bridges;
    }

    public float builtShare() throws ArithmeticException {
        if (game.sites == 0) {
            throw new ArithmeticException("there are no sites");
        }
        return (float) game.bridges() / (float) game.sites;
    }

    public boolean isConsistent() {
        return graph.distancesAgree(game)
                && Graph.countBySearch(game) == graph.countByJoining(game)
                && graph.kruskalLength(game) == Graph.primLength(game)
                && game.isEveryPlayerSolvent()
                && game.isMoneyKept();
    }

    // ---- output and scripts

    public int renderSite(int site) throws IndexOutOfBoundsException {
        requireSite(site);
        output.setLength(0);
        game.describe(site, output);
        return output.length();
    }

    public char outputAt(int index) throws IndexOutOfBoundsException {
        if (index < 0 || index >= output.length()) {
            throw new IndexOutOfBoundsException("no such character of the output text");
        }
        return output.charAt(index);
    }

    public int type(char character) throws IllegalArgumentException, IllegalStateException {
        if (character < FIRST_SIGN || character > LAST_SIGN) {
            throw new IllegalArgumentException("the character code is not between 32 and 126");
        }
        if (script.size == SCRIPT_LIMIT) {
            throw new IllegalStateException("the script buffer is full");
        }
        return script.append(character);
    }

    public int runScript() throws IllegalArgumentException, IllegalStateException {
        int commands = script.countCommands();
        if (commands == NONE) {
            errorPosition = script.at;
            script.size = 0;
            throw new IllegalArgumentException("the script does not have the required form");
        }
        // The commands run on a copy, so that a failing script leaves the game as it was.
        trial.copyFrom(game);
        int failed = script.runOn(trial, commands);
        script.size = 0;
        if (failed != NONE) {
            failedCommand = failed;
            throw new IllegalStateException("a command of the script failed");
        }
        history.push(game);
        game.copyFrom(trial);
        return commands;
    }

    public int errorPosition() throws NoSuchElementException {
        requireFound(errorPosition);
        return errorPosition;
    }

    public int failedCommand() throws NoSuchElementException {
        requireFound(failedCommand);
        return failedCommand;
    }

    public int undo() throws NoSuchElementException {
        if (history.count == 0) {
            throw new NoSuchElementException("there is nothing to undo");
        }
        return history.popInto(game);
    }

    public int save() {
        snapshot.copyFrom(game);
        hasSnapshot = true;
        return game.players;
    }

    public int restore() throws IllegalStateException {
        if (!hasSnapshot) {
            throw new IllegalStateException("there is no snapshot");
        }
        game.copyFrom(snapshot);
        history.count = 0;
        return game.players;
    }

    // ---- helpers of the face

    private int change(Verb verb, int first, int second, int third) {
        refuseUnlessFine(game.judge(verb, first, second, third));
        history.push(game);
        return game.play(verb, first, second, third);
    }

    private static void refuseUnlessFine(Verdict verdict) {
        switch (verdict) {
            case NO_SUCH_INDEX:
                throw new IndexOutOfBoundsException("no such island, player or site");
            case BAD_ARGUMENT:
                throw new IllegalArgumentException("an argument is out of its range");
            case WRONG_STATE:
                throw new IllegalStateException("the state does not allow this");
            case NOT_ALLOWED:
                throw new UnsupportedOperationException("the rules do not allow this");
            case NOT_FOUND:
                throw new NoSuchElementException("no such bid");
            default:
                break;
        }
    }

    private static void requireIsland(int island) {
        if (!Game.isIsland(island)) {
            throw new IndexOutOfBoundsException("no such island");
        }
    }

    private void requirePlayer(int player) {
        if (!game.isPlayer(player)) {
            throw new IndexOutOfBoundsException("no such player");
        }
    }

    private void requireSite(int site) {
        if (!game.isSite(site)) {
            throw new IndexOutOfBoundsException("no such site");
        }
    }

    private void requireBid(int player, int site) {
        requirePlayer(player);
        requireSite(site);
        if (!game.hasBid(player, site)) {
            throw new NoSuchElementException("the player has no bid on the site");
        }
    }

    private static void requireFound(int answer) {
        if (answer == NONE) {
            throw new NoSuchElementException("there is none");
        }
    }

    private static int requireNear(int distance) {
        if (distance == FAR) {
            throw new NoSuchElementException("the islands are not connected");
        }
        return distance;
    }

    /** What the rules say of a change before it is made: fine, or which exception its method owes. */
    private enum Verdict {
        FINE, NO_SUCH_INDEX, BAD_ARGUMENT, WRONG_STATE, NOT_ALLOWED, NOT_FOUND
    }

    /** The kinds of change that both the face and a script can ask for, with their form in a script. */
    private enum Verb {
        PLAYER("player ", "n"),
        SITE("site ", "ddd"),
        SUIT("suit ", "dd"),
        TIDE("tide ", "d"),
        BID("bid ", "dnn"),
        BLUFF("bluff ", "dnn"),
        FERRY("ferry ", "dn"),
        DROP("drop ", "dn"),
        SETTLE("settle ", "n");

        private static final Verb[] ALL = values();

        private final String keyword;
        /** One sign for each argument: d for a digit, n for a number of one or two digits. */
        private final String arguments;

        Verb(String keyword, String arguments) {
            this.keyword = keyword;
            this.arguments = arguments;
        }
    }

    /** All that undo and the snapshot cover, and the rules of the game. */
    private static final class Game {
        private final int[] suits = new int[ISLANDS];
        private int tideLevel = 0;

        private int players = 0;
        private final int[] moneys = new int[PLAYER_LIMIT];
        /** A set of players: bit p stands for player p. */
        private int usedFerries = 0;

        private int sites = 0;
        private final int[] lowers = new int[SITE_LIMIT];
        private final int[] highers = new int[SITE_LIMIT];
        private final int[] lengths = new int[SITE_LIMIT];
        private final int[] builders = new int[SITE_LIMIT];
        private final int[] ferries = new int[SITE_LIMIT];
        /** The amount of each player's bid on each site, negative for a bluff, 0 for no bid. */
        private final int[] offers = new int[SITE_LIMIT * PLAYER_LIMIT];

        private int initialMoney = 0;
        private int bank = 0;
        private int settlings = 0;
        private int wonBluffs = 0;

        Game() {
            for (int island = 0; island < ISLANDS; island++) {
                suits[island] = island % SUITS;
            }
        }

        void copyFrom(Game other) {
            System.arraycopy(other.suits, 0, suits, 0, ISLANDS);
            tideLevel = other.tideLevel;
            players = other.players;
            System.arraycopy(other.moneys, 0, moneys, 0, PLAYER_LIMIT);
            usedFerries = other.usedFerries;
            sites = other.sites;
            System.arraycopy(other.lowers, 0, lowers, 0, SITE_LIMIT);
            System.arraycopy(other.highers, 0, highers, 0, SITE_LIMIT);
            System.arraycopy(other.lengths, 0, lengths, 0, SITE_LIMIT);
            System.arraycopy(other.builders, 0, builders, 0, SITE_LIMIT);
            System.arraycopy(other.ferries, 0, ferries, 0, SITE_LIMIT);
            System.arraycopy(other.offers, 0, offers, 0, SITE_LIMIT * PLAYER_LIMIT);
            initialMoney = other.initialMoney;
            bank = other.bank;
            settlings = other.settlings;
            wonBluffs = other.wonBluffs;
        }

        // ---- which changes the rules allow

        Verdict judge(Verb verb, int first, int second, int third) {
            switch (verb) {
                case PLAYER:
                    return judgePlayer(first);
                case SITE:
                    return judgeSite(first, second, third);
                case SUIT:
                    return judgeSuit(first, second);
                case TIDE:
                    return judgeTide(first);
                case BID:
                    return judgeBid(first, second, third);
                case BLUFF:
                    return judgeBluff(first, second, third);
                case FERRY:
                    return judgeFerry(first, second);
                case DROP:
                    return judgeDrop(first, second);
                default:
                    return judgeSettling(first);
            }
        }

        private Verdict judgePlayer(int money) {
            if (money < 0 || money > MONEY_LIMIT) {
                return Verdict.BAD_ARGUMENT;
            }
            return players == PLAYER_LIMIT ? Verdict.WRONG_STATE : Verdict.FINE;
        }

        private Verdict judgeSite(int first, int second, int length) {
            if (!isIsland(first) || !isIsland(second)) {
                return Verdict.NO_SUCH_INDEX;
            }
            if (first == second || length < 1 || length > LENGTH_LIMIT) {
                return Verdict.BAD_ARGUMENT;
            }
            if (hasSiteBetween(Math.min(first, second), Math.max(first, second))) {
                return Verdict.NOT_ALLOWED;
            }
            return sites == SITE_LIMIT ? Verdict.WRONG_STATE : Verdict.FINE;
        }

        private Verdict judgeSuit(int island, int suit) {
            if (!isIsland(island)) {
                return Verdict.NO_SUCH_INDEX;
            }
            return suit < 0 || suit >= SUITS ? Verdict.BAD_ARGUMENT : Verdict.FINE;
        }

        private static Verdict judgeTide(int level) {
            return level < 0 || level > TIDE_LIMIT ? Verdict.BAD_ARGUMENT : Verdict.FINE;
        }

        private Verdict judgeBluff(int player, int site, int amount) {
            if (!isPlayer(player) || !isSite(site)) {
                return Verdict.NO_SUCH_INDEX;
            }
            if (amount < 1 || amount > AMOUNT_LIMIT) {
                return Verdict.BAD_ARGUMENT;
            }
            if (hasBridge(site)) {
                return Verdict.WRONG_STATE;
            }
            return bidsAbove(site, amount - 1) > 0 ? Verdict.NOT_ALLOWED : Verdict.FINE;
        }

        private Verdict judgeBid(int player, int site, int amount) {
            Verdict verdict = judgeBluff(player, site, amount);
            if (verdict != Verdict.FINE) {
                return verdict;
            }
            int spendable = availableTo(player) + reservedBy(player, site);
            return amount > spendable ? Verdict.NOT_ALLOWED : Verdict.FINE;
        }

        private Verdict judgeDrop(int player, int site) {
            if (!isPlayer(player) || !isSite(site)) {
                return Verdict.NO_SUCH_INDEX;
            }
            if (!hasBid(player, site)) {
                return Verdict.NOT_FOUND;
            }
            return ferries[site] == player ? Verdict.WRONG_STATE : Verdict.FINE;
        }

        private Verdict judgeFerry(int player, int site) {
            if (!isPlayer(player) || !isSite(site)) {
                return Verdict.NO_SUCH_INDEX;
            }
            if (!hasBid(player, site)) {
                return Verdict.NOT_FOUND;
            }
            if (hasUsedFerry(player) || ferries[site] != NONE) {
                return Verdict.WRONG_STATE;
            }
            boolean fits = suits[lowers[site]] == player || suits[highers[site]] == player;
            return fits ? Verdict.FINE : Verdict.NOT_ALLOWED;
        }

        private Verdict judgeSettling(int site) {
            if (!isSite(site)) {
                return Verdict.NO_SUCH_INDEX;
            }
            if (hasBridge(site)) {
                return Verdict.WRONG_STATE;
            }
            return winnerOf(site) == NONE ? Verdict.NOT_FOUND : Verdict.FINE;
        }

        // ---- the changes, each only after its verdict was fine

        int play(Verb verb, int first, int second, int third) {
            switch (verb) {
                case PLAYER:
                    return join(first);
                case SITE:
                    return open(first, second, third);
                case SUIT:
                    return giveSuit(first, second);
                case TIDE:
                    return moveTide(first);
                case BID:
                    offers[slot(first, second)] = third;
                    return availableTo(first);
                case BLUFF:
                    offers[slot(first, second)] = -third;
                    return bidsAbove(second, 0);
                case FERRY:
                    return sendFerry(first, second);
                case DROP:
                    return drop(first, second);
                default:
                    return close(first) ? 1 : 0;
            }
        }

        private int join(int money) {
            int player = players;
            moneys[player] = money;
            initialMoney += money;
            players++;
            return player;
        }

        private int open(int first, int second, int length) {
            int site = sites;
            lowers[site] = Math.min(first, second);
            highers[site] = Math.max(first, second);
            lengths[site] = length;
            builders[site] = NONE;
            ferries[site] = NONE;
            sites++;
            return site;
        }

        private int giveSuit(int island, int suit) {
            int previous = suits[island];
            suits[island] = suit;
            return previous;
        }

        private int moveTide(int level) {
            int previous = tideLevel;
            tideLevel = level;
            return previous;
        }

        private int sendFerry(int player, int site) {
            ferries[site] = player;
            usedFerries |= 1 << player;
            return bidsAbove(site, amountOf(player, site));
        }

        private int drop(int player, int site) {
            int amount = amountOf(player, site);
            offers[slot(player, site)] = 0;
            return amount;
        }

        private boolean close(int site) {
            int winner = winnerOf(site);
            boolean bluffed = hasBluff(winner, site);
            boolean builds = buildsWith(winner, site);
            int amount = amountOf(winner, site);
            clearBids(site);
            settlings++;
            if (bluffed) {
                wonBluffs++;
                pay(winner, Math.min(PENALTY, availableTo(winner)));
            } else {
                pay(winner, amount);
            }
            if (builds) {
                builders[site] = winner;
            }
            return builds;
        }

        private void clearBids(int site) {
            for (int player = 0; player < PLAYER_LIMIT; player++) {
                offers[slot(player, site)] = 0;
            }
            ferries[site] = NONE;
        }

        private void pay(int player, int amount) {
            moneys[player] -= amount;
            bank += amount;
        }

        // ---- islands and sites

        static boolean isIsland(int island) {
            return island >= 0 && island < ISLANDS;
        }

        boolean isSite(int site) {
            return site >= 0 && site < sites;
        }

        private boolean hasSiteBetween(int lower, int higher) {
            for (int site = 0; site < sites; site++) {
                if (lowers[site] == lower && highers[site] == higher) {
                    return true;
                }
            }
            return false;
        }

        int costOf(int site) {
            return lengths[site] + tideLevel;
        }

        boolean hasBridge(int site) {
            return builders[site] != NONE;
        }

        int bridges() {
            int count = 0;
            for (int site = 0; site < sites; site++) {
                count += hasBridge(site) ? 1 : 0;
            }
            return count;
        }

        int bridgeLengths() {
            int sum = 0;
            for (int site = 0; site < sites; site++) {
                sum += hasBridge(site) ? lengths[site] : 0;
            }
            return sum;
        }

        int cheapestWithoutBridge() {
            int cheapest = NONE;
            for (int site = 0; site < sites; site++) {
                if (!hasBridge(site) && (cheapest == NONE || costOf(site) < costOf(cheapest))) {
                    cheapest = site;
                }
            }
            return cheapest;
        }

        /** The island at the other end of the bridge on a site, or NONE if none leads there from this island. */
        int bridgedFrom(int island, int site) {
            if (!hasBridge(site)) {
                return NONE;
            }
            if (lowers[site] == island) {
                return highers[site];
            }
            return highers[site] == island ? lowers[site] : NONE;
        }

        // ---- bids and ferries

        private static int slot(int player, int site) {
            return site * PLAYER_LIMIT + player;
        }

        boolean hasBid(int player, int site) {
            return offers[slot(player, site)] != 0;
        }

        boolean hasBluff(int player, int site) {
            return offers[slot(player, site)] < 0;
        }

        int amountOf(int player, int site) {
            return Math.abs(offers[slot(player, site)]);
        }

        private int reservedBy(int player, int site) {
            return Math.max(offers[slot(player, site)], 0);
        }

        int bidsAbove(int site, int amount) {
            int count = 0;
            for (int player = 0; player < players; player++) {
                count += amountOf(player, site) > amount ? 1 : 0;
            }
            return count;
        }

        int winnerOf(int site) {
            if (ferries[site] != NONE) {
                return ferries[site];
            }
            int winner = NONE;
            int highest = 0;
            for (int player = 0; player < players; player++) {
                if (amountOf(player, site) > highest) {
                    winner = player;
                    highest = amountOf(player, site);
                }
            }
            return winner;
        }

        boolean buildsWith(int winner, int site) {
            return reservedBy(winner, site) >= costOf(site);
        }

        // ---- players

        boolean isPlayer(int player) {
            return player >= 0 && player < players;
        }

        boolean hasUsedFerry(int player) {
            return (usedFerries & (1 << player)) != 0;
        }

        int availableTo(int player) {
            int available = moneys[player];
            for (int site = 0; site < sites; site++) {
                available -= reservedBy(player, site);
            }
            return available;
        }

        int bridgesOf(int player) {
            int count = 0;
            for (int site = 0; site < sites; site++) {
                count += builders[site] == player ? 1 : 0;
            }
            return count;
        }

        int scoreOf(int player) {
            int score = 0;
            for (int site = 0; site < sites; site++) {
                if (builders[site] == player) {
                    score += lengths[site];
                    score += suits[lowers[site]] == suits[highers[site]] ? SAME_SUIT_BONUS : 0;
                }
            }
            return score;
        }

        int playerAtRank(int rank) {
            for (int player = 0; player < players; player++) {
                if (rankOf(player) == rank) {
                    return player;
                }
            }
            return NONE;
        }

        private int rankOf(int player) {
            int ahead = 0;
            for (int other = 0; other < players; other++) {
                ahead += isAhead(other, player) ? 1 : 0;
            }
            return ahead;
        }

        private boolean isAhead(int player, int other) {
            int byScore = Integer.compare(scoreOf(player), scoreOf(other));
            if (byScore != 0) {
                return byScore > 0;
            }
            int byMoney = Integer.compare(moneys[player], moneys[other]);
            return byMoney != 0 ? byMoney > 0 : player < other;
        }

        boolean isEveryPlayerSolvent() {
            for (int player = 0; player < players; player++) {
                if (availableTo(player) < 0) {
                    return false;
                }
            }
            return true;
        }

        boolean isMoneyKept() {
            int sum = bank;
            for (int player = 0; player < players; player++) {
                sum += moneys[player];
            }
            return sum == initialMoney;
        }

        // ---- the output text

        void describe(int site, StringBuilder text) {
            text.append(lowers[site]).append('-').append(highers[site]).append('/').append(lengths[site]);
            if (hasBridge(site)) {
                text.append('=').append(builders[site]);
                return;
            }
            for (int player = 0; player < players; player++) {
                if (hasBid(player, site)) {
                    describeBid(player, site, text);
                }
            }
        }

        private void describeBid(int player, int site, StringBuilder text) {
            text.append(' ').append(player).append(':').append(amountOf(player, site));
            if (hasBluff(player, site)) {
                text.append('?');
            }
            if (ferries[site] == player) {
                text.append('*');
            }
        }
    }

    /** The built sites of a game as edges. Its rows are scratch space that every search fills anew. */
    private static final class Graph {
        private final int[] nearest = new int[ISLANDS];
        private final int[] relaxed = new int[ISLANDS];
        private final int[] parents = new int[ISLANDS];

        // ---- shortest paths

        /** Dijkstra: the island that is nearest of the open ones is final, since every length is positive. */
        void searchNearest(Game game, int start) {
            Arrays.fill(nearest, FAR);
            nearest[start] = 0;
            int closed = 0;
            for (int round = 0; round < ISLANDS; round++) {
                int island = nearestOpen(closed);
                if (island == NONE) {
                    return;
                }
                closed |= 1 << island;
                lookFurther(game, island);
            }
        }

        private int nearestOpen(int closed) {
            int found = NONE;
            int least = FAR;
            for (int island = 0; island < ISLANDS; island++) {
                if (!contains(closed, island) && nearest[island] < least) {
                    found = island;
                    least = nearest[island];
                }
            }
            return found;
        }

        private void lookFurther(Game game, int island) {
            for (int site = 0; site < game.sites; site++) {
                int next = game.bridgedFrom(island, site);
                if (next != NONE) {
                    nearest[next] = Math.min(nearest[next], nearest[island] + game.lengths[site]);
                }
            }
        }

        /** Bellman-Ford: a shortest path has at most one edge fewer than there are islands. */
        void relaxFrom(Game game, int start) {
            Arrays.fill(relaxed, FAR);
            relaxed[start] = 0;
            for (int round = 1; round < ISLANDS; round++) {
                relaxAll(game);
            }
        }

        private void relaxAll(Game game) {
            for (int site = 0; site < game.sites; site++) {
                if (game.hasBridge(site)) {
                    int lower = game.lowers[site];
                    int higher = game.highers[site];
                    relaxed[higher] = Math.min(relaxed[higher], relaxed[lower] + game.lengths[site]);
                    relaxed[lower] = Math.min(relaxed[lower], relaxed[higher] + game.lengths[site]);
                }
            }
        }

        boolean distancesAgree(Game game) {
            for (int start = 0; start < ISLANDS; start++) {
                searchNearest(game, start);
                relaxFrom(game, start);
                for (int end = 0; end < ISLANDS; end++) {
                    if (nearest[end] != relaxed[end]) {
                        return false;
                    }
                }
            }
            return true;
        }

        // ---- components

        static boolean reaches(Game game, int first, int second) {
            return contains(visit(game, first, 0), second);
        }

        static int countBySearch(Game game) {
            int count = 0;
            int seen = 0;
            for (int island = 0; island < ISLANDS; island++) {
                if (!contains(seen, island)) {
                    seen = visit(game, island, seen);
                    count++;
                }
            }
            return count;
        }

        /** Each level adds an island to the set, so it goes at most as deep as there are islands. */
        private static int visit(Game game, int island, int seen) {
            int reached = seen | (1 << island);
            for (int site = 0; site < game.sites; site++) {
                int next = game.bridgedFrom(island, site);
                if (next != NONE && !contains(reached, next)) {
                    reached = visit(game, next, reached);
                }
            }
            return reached;
        }

        int countByJoining(Game game) {
            separateAll();
            int count = ISLANDS;
            for (int site = 0; site < game.sites; site++) {
                if (game.hasBridge(site) && joinEnds(game, site)) {
                    count--;
                }
            }
            return count;
        }

        private void separateAll() {
            for (int island = 0; island < ISLANDS; island++) {
                parents[island] = island;
            }
        }

        private boolean joinEnds(Game game, int site) {
            int one = rootOf(game.lowers[site]);
            int other = rootOf(game.highers[site]);
            parents[one] = other;
            return one != other;
        }

        private int rootOf(int island) {
            int root = island;
            for (int step = 0; step < ISLANDS && parents[root] != root; step++) {
                root = parents[root];
            }
            return root;
        }

        // ---- minimum spanning forests

        /** Kruskal: lengths are few, so going through them in order replaces sorting the edges. */
        int kruskalLength(Game game) {
            separateAll();
            int total = 0;
            for (int length = 1; length <= LENGTH_LIMIT; length++) {
                for (int site = 0; site < game.sites; site++) {
                    if (game.hasBridge(site) && game.lengths[site] == length && joinEnds(game, site)) {
                        total += length;
                    }
                }
            }
            return total;
        }

        /** Prim: a tree is full before the next one starts, so one set of islands serves for all trees. */
        static int primLength(Game game) {
            int total = 0;
            int reached = 0;
            for (int start = 0; start < ISLANDS; start++) {
                reached |= 1 << start;
                for (int round = 1; round < ISLANDS; round++) {
                    int site = shortestLeaving(game, reached);
                    if (site == NONE) {
                        break;
                    }
                    total += game.lengths[site];
                    reached |= (1 << game.lowers[site]) | (1 << game.highers[site]);
                }
            }
            return total;
        }

        private static int shortestLeaving(Game game, int reached) {
            int shortest = NONE;
            for (int site = 0; site < game.sites; site++) {
                boolean leaves = game.hasBridge(site)
                        && contains(reached, game.lowers[site]) != contains(reached, game.highers[site]);
                if (leaves && (shortest == NONE || game.lengths[site] < game.lengths[shortest])) {
                    shortest = site;
                }
            }
            return shortest;
        }

        private static boolean contains(int islands, int island) {
            return (islands & (1 << island)) != 0;
        }
    }

    /** The games before the latest changes, in a ring. */
    private static final class History {
        private final Game[] ring = new Game[UNDO_LIMIT];
        private int next = 0;
        private int count = 0;

        History() {
            for (int i = 0; i < UNDO_LIMIT; i++) {
                ring[i] = new Game();
            }
        }

        void push(Game game) {
            ring[next].copyFrom(game);
            next = (next + 1) % UNDO_LIMIT;
            count = Math.min(count + 1, UNDO_LIMIT);
        }

        int popInto(Game game) {
            next = (next + UNDO_LIMIT - 1) % UNDO_LIMIT;
            game.copyFrom(ring[next]);
            count--;
            return count;
        }
    }

    /** The script buffer and its reader, which holds the command that it read last. */
    private static final class Script {
        private final char[] signs = new char[SCRIPT_LIMIT];
        private int size = 0;
        /** The next character to read; where reading stopped for an error, the error position. */
        private int at = 0;
        private Verb verb = Verb.PLAYER;
        private final int[] numbers = new int[ARGUMENT_LIMIT];

        int append(char sign) {
            signs[size] = sign;
            size++;
            return size;
        }

        /** The number of commands, or NONE if the script does not have the required form. */
        int countCommands() {
            at = 0;
            for (int count = 1; count <= SCRIPT_LIMIT; count++) {
                if (!readCommand()) {
                    return NONE;
                }
                if (at == size) {
                    return count;
                }
                if (!readSign(';')) {
                    return NONE;
                }
            }
            return NONE;
        }

        /** Plays a script that has the required form; the index of the first failing command, or NONE. */
        int runOn(Game game, int commands) {
            at = 0;
            for (int i = 0; i < commands; i++) {
                readCommand();
                readSign(';');
                if (game.judge(verb, numbers[0], numbers[1], numbers[2]) != Verdict.FINE) {
                    return i;
                }
                game.play(verb, numbers[0], numbers[1], numbers[2]);
            }
            return NONE;
        }

        private boolean readCommand() {
            if (!readVerb()) {
                return false;
            }
            for (int i = 0; i < ARGUMENT_LIMIT && i < verb.arguments.length(); i++) {
                if (i > 0 && !readSign(' ')) {
                    return false;
                }
                if (!readNumber(i, verb.arguments.charAt(i) == 'n')) {
                    return false;
                }
            }
            return true;
        }

        /** The keywords share beginnings, so the one that goes furthest tells the error position. */
        private boolean readVerb() {
            int furthest = 0;
            for (Verb candidate : Verb.ALL) {
                int shared = sharedWith(candidate.keyword);
                furthest = Math.max(furthest, shared);
                if (shared == candidate.keyword.length()) {
                    verb = candidate;
                    at += shared;
                    return true;
                }
            }
            at += furthest;
            return false;
        }

        private int sharedWith(String keyword) {
            int shared = 0;
            while (shared < keyword.length() && at + shared < size && signs[at + shared] == keyword.charAt(shared)) {
                shared++;
            }
            return shared;
        }

        private boolean readNumber(int index, boolean mayHaveTwoDigits) {
            if (!isDigitNext()) {
                return false;
            }
            numbers[index] = readDigit();
            if (mayHaveTwoDigits && isDigitNext()) {
                numbers[index] = numbers[index] * 10 + readDigit();
            }
            return true;
        }

        private boolean isDigitNext() {
            return at < size && signs[at] >= '0' && signs[at] <= '9';
        }

        private int readDigit() {
            int digit = signs[at] - '0';
            at++;
            return digit;
        }

        private boolean readSign(char sign) {
            if (at >= size || signs[at] != sign) {
                return false;
            }
            at++;
            return true;
        }
    }
}
