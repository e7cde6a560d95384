import java.util.NoSuchElementException;

/** The document's promises in their order: ordinary inputs, the named edges, and wrong inputs. */
public final class PromiseTest {
    private static final Class<IndexOutOfBoundsException> INDEX = IndexOutOfBoundsException.class;
    private static final Class<IllegalArgumentException> ARGUMENT = IllegalArgumentException.class;
    private static final Class<IllegalStateException> STATE = IllegalStateException.class;
    private static final Class<UnsupportedOperationException> UNSUPPORTED = UnsupportedOperationException.class;
    private static final Class<NoSuchElementException> ELEMENT = NoSuchElementException.class;
    private static final Class<ArithmeticException> ARITHMETIC = ArithmeticException.class;

    private static final int[] WRONG_ISLANDS = {-1, 8, Integer.MIN_VALUE, Integer.MAX_VALUE};

    private final Checks checks = new Checks();

    public static void main(String[] arguments) {
        PromiseTest test = new PromiseTest();
        test.promises1To5();
        test.promises6To10();
        test.promises11To18();
        test.promises19To32();
        test.promises33To39();
        test.promises40To46();
        test.promises47To49();
        test.promises50To52();
        test.promises53To55();
        test.checks.close();
    }

    private void promises1To5() {
        newObject();
        addPlayer();
        addSite();
        setSuit();
        setTide();
    }

    private void promises6To10() {
        placeBid();
        placeBidOrder();
        placeBluff();
        withdrawBid();
        playFerry();
        playFerryOrder();
        settleGenuine();
        settleBluff();
        settleWithFerry();
        settleWrong();
    }

    private void promises11To18() {
        suitAndTide();
        playerCountAndMoney();
        isFerryUsedOfPlayers();
        bridgeCountAndScore();
    }

    private void promises19To32() {
        siteFacts();
        builtFacts();
        bidFacts();
        ferryAndWinner();
        wouldBuild();
        cheapestFreeSite();
    }

    private void promises33To39() {
        graphWithoutBridges();
        graphWithBridges();
        longPath();
        graphWrongIslands();
    }

    private void promises40To46() {
        playerByScore();
        totals();
        meansAndShares();
        consistency();
    }

    private void promises47To49() {
        renderSite();
        renderFourBids();
        outputAt();
        type();
    }

    private void promises50To52() {
        everyCommand();
        scriptNumbers();
        scriptForm();
        scriptFailures();
        scriptAllOrNothing();
        scriptOfSixty();
        errorPositionAndFailedCommand();
    }

    private void promises53To55() {
        undoEveryChange();
        undoDepth();
        undoOfScript();
        undoLeavesRest();
        saveAndRestore();
        restoreLeavesRest();
    }

    // ---- games to start from

    /** Players with 50, 60 and 4; sites 0: 0-4 length 3, 1: 4-5 length 9, 2: 1-5 length 2. */
    private static BridgeAuction threePlayers() {
        BridgeAuction game = new BridgeAuction();
        game.addPlayer(50);
        game.addPlayer(60);
        game.addPlayer(4);
        game.addSite(0, 4, 3);
        game.addSite(5, 4, 9);
        game.addSite(1, 5, 2);
        return game;
    }

    private static void build(BridgeAuction game, int player, int site) {
        game.placeBid(player, site, game.buildingCost(site));
        game.settle(site);
    }

    /** Adds and builds a bridge that the player pays with its length. */
    private static void bridge(BridgeAuction game, int player, int first, int second, int length) {
        build(game, player, game.addSite(first, second, length));
    }

    private static void typeAll(BridgeAuction game, String text) {
        for (char character : text.toCharArray()) {
            game.type(character);
        }
    }

    private static int run(BridgeAuction game, String text) {
        typeAll(game, text);
        return game.runScript();
    }

    private static int undoAll(BridgeAuction game) {
        int count = 0;
        try {
            for (int i = 0; i < 100; i++) {
                game.undo();
                count++;
            }
        } catch (NoSuchElementException e) {
            return count;
        }
        return count;
    }

    // ---- promises 1 to 5

    private void newObject() {
        BridgeAuction game = new BridgeAuction();
        checks.due("1 playerCount", 0, game::playerCount);
        checks.due("1 siteCount", 0, game::siteCount);
        checks.due("1 tide", 0, game::tide);
        checks.due("1 bankMoney", 0, game::bankMoney);
        checks.due("1 settledTotal", 0, game::settledTotal);
        checks.due("1 bluffTotal", 0, game::bluffTotal);
        for (int i = 0; i < 8; i++) {
            int island = i;
            checks.due("1 suit " + i, i % 4, () -> game.suit(island));
        }
        checks.due("1 money", INDEX, () -> game.money(0));
        checks.due("1 length", INDEX, () -> game.length(0));
        checks.due("1 outputAt", INDEX, () -> game.outputAt(0));
        checks.due("1 undo", ELEMENT, game::undo);
        checks.due("1 restore", STATE, game::restore);
        checks.due("1 errorPosition", ELEMENT, game::errorPosition);
        checks.due("1 failedCommand", ELEMENT, game::failedCommand);
        BridgeAuction other = new BridgeAuction();
        other.addPlayer(3);
        other.setSuit(0, 3);
        checks.due("1 objects are apart", 0, game::playerCount);
        checks.due("1 suits are apart", 0, () -> game.suit(0));
    }

    private void addPlayer() {
        BridgeAuction game = new BridgeAuction();
        checks.refused("2 money -1", ARGUMENT, game, () -> game.addPlayer(-1));
        checks.refused("2 money 100", ARGUMENT, game, () -> game.addPlayer(100));
        checks.due("2 money 0", 0, () -> game.addPlayer(0));
        checks.due("2 money 99", 1, () -> game.addPlayer(99));
        checks.due("2 third", 2, () -> game.addPlayer(7));
        checks.due("2 fourth", 3, () -> game.addPlayer(8));
        checks.due("2 count", 4, game::playerCount);
        checks.due("2 money of 0", 0, () -> game.money(0));
        checks.due("2 money of 1", 99, () -> game.money(1));
        checks.due("2 money of 3", 8, () -> game.money(3));
        checks.refused("2 fifth", STATE, game, () -> game.addPlayer(5));
        checks.refused("2 argument before state", ARGUMENT, game, () -> game.addPlayer(100));
        checks.refused("2 smallest", ARGUMENT, game, () -> game.addPlayer(Integer.MIN_VALUE));
        checks.due("2 undo count", 4, () -> undoAll(game));
    }

    private void addSite() {
        BridgeAuction game = new BridgeAuction();
        for (int wrong : WRONG_ISLANDS) {
            checks.refused("3 first " + wrong, INDEX, game, () -> game.addSite(wrong, 0, 10));
            checks.refused("3 second " + wrong, INDEX, game, () -> game.addSite(0, wrong, 10));
            checks.refused("3 both " + wrong, INDEX, game, () -> game.addSite(wrong, wrong, 1));
        }
        checks.refused("3 same island", ARGUMENT, game, () -> game.addSite(3, 3, 1));
        checks.refused("3 length 0", ARGUMENT, game, () -> game.addSite(3, 4, 0));
        checks.refused("3 length 10", ARGUMENT, game, () -> game.addSite(3, 4, 10));
        checks.due("3 length 1", 0, () -> game.addSite(7, 0, 1));
        checks.due("3 length 9", 1, () -> game.addSite(0, 1, 9));
        checks.due("3 lower", 0, () -> game.lowerIsland(0));
        checks.due("3 higher", 7, () -> game.higherIsland(0));
        checks.due("3 free", false, () -> game.isBuilt(0));
        checks.due("3 no bids", 0, () -> game.bidCount(0));
        checks.refused("3 same pair", UNSUPPORTED, game, () -> game.addSite(7, 0, 2));
        checks.refused("3 same pair turned", UNSUPPORTED, game, () -> game.addSite(0, 7, 2));
        checks.refused("3 argument before pair", ARGUMENT, game, () -> game.addSite(0, 7, 0));
        for (int i = 2; i < 8; i++) {
            int second = i;
            checks.due("3 site " + i, i, () -> game.addSite(1, second, 5));
        }
        for (int i = 8; i < 12; i++) {
            int second = i - 5;
            checks.due("3 site " + i, i, () -> game.addSite(second, 2, 5));
        }
        checks.due("3 count", 12, game::siteCount);
        checks.refused("3 thirteenth", STATE, game, () -> game.addSite(6, 7, 5));
        checks.refused("3 pair before state", UNSUPPORTED, game, () -> game.addSite(2, 6, 5));
        checks.refused("3 argument before state", ARGUMENT, game, () -> game.addSite(6, 6, 5));
        checks.refused("3 index before state", INDEX, game, () -> game.addSite(6, 8, 5));
        checks.due("3 undo count", 8, () -> undoAll(game));
    }

    private void setSuit() {
        BridgeAuction game = new BridgeAuction();
        for (int wrong : WRONG_ISLANDS) {
            checks.refused("4 island " + wrong, INDEX, game, () -> game.setSuit(wrong, 4));
        }
        checks.refused("4 suit -1", ARGUMENT, game, () -> game.setSuit(0, -1));
        checks.refused("4 suit 4", ARGUMENT, game, () -> game.setSuit(7, 4));
        checks.due("4 island 7", 3, () -> game.setSuit(7, 0));
        checks.due("4 island 7 again", 0, () -> game.setSuit(7, 3));
        checks.due("4 island 0", 0, () -> game.setSuit(0, 2));
        checks.due("4 suit 0", 2, () -> game.suit(0));
        checks.due("4 suit 7", 3, () -> game.suit(7));
        checks.due("4 suit 1", 1, () -> game.suit(1));
    }

    private void setTide() {
        BridgeAuction game = new BridgeAuction();
        game.addSite(0, 1, 4);
        checks.refused("5 level -1", ARGUMENT, game, () -> game.setTide(-1));
        checks.refused("5 level 10", ARGUMENT, game, () -> game.setTide(10));
        checks.due("5 level 9", 0, () -> game.setTide(9));
        checks.due("5 cost", 13, () -> game.buildingCost(0));
        checks.due("5 level 0", 9, () -> game.setTide(0));
        checks.due("5 tide", 0, game::tide);
    }

    // ---- promises 6 to 10

    private void placeBid() {
        BridgeAuction game = threePlayers();
        checks.due("6 first bid", 40, () -> game.placeBid(0, 0, 10));
        checks.refused("6 equal", UNSUPPORTED, game, () -> game.placeBid(1, 0, 10));
        checks.due("6 higher", 49, () -> game.placeBid(1, 0, 11));
        checks.refused("6 between", UNSUPPORTED, game, () -> game.placeBid(0, 0, 11));
        checks.due("6 own bid replaced", 38, () -> game.placeBid(0, 0, 12));
        checks.due("6 still two bids", 2, () -> game.bidCount(0));
        checks.refused("6 own bid equal", UNSUPPORTED, game, () -> game.placeBid(0, 0, 12));
        checks.due("6 rest on another site", 0, () -> game.placeBid(0, 1, 38));
        checks.refused("6 no money left", UNSUPPORTED, game, () -> game.placeBid(0, 2, 1));
        checks.refused("6 own bid cannot rise", UNSUPPORTED, game, () -> game.placeBid(0, 0, 13));
        checks.due("6 money is not paid yet", 50, () -> game.money(0));
        BridgeAuction all = threePlayers();
        checks.due("6 all the money", 0, () -> all.placeBid(0, 0, 49) - 1);
        checks.due("6 all the money with the own bid", 0, () -> all.placeBid(0, 0, 50));
        checks.refused("6 more than all", UNSUPPORTED, all, () -> all.placeBid(0, 0, 51));
        BridgeAuction bluffed = threePlayers();
        bluffed.placeBluff(2, 0, 3);
        checks.refused("6 a bluff frees nothing", UNSUPPORTED, bluffed, () -> bluffed.placeBid(2, 0, 5));
        checks.due("6 a bluff made genuine", 0, () -> bluffed.placeBid(2, 0, 4));
        checks.due("6 is genuine now", false, () -> bluffed.isBluff(2, 0));
    }

    private void placeBidOrder() {
        BridgeAuction game = threePlayers();
        game.addPlayer(99);
        build(game, 1, 2);
        for (int wrong : new int[] {-1, 4, Integer.MIN_VALUE, Integer.MAX_VALUE}) {
            checks.refused("6 player " + wrong, INDEX, game, () -> game.placeBid(wrong, 2, 0));
            checks.refused("7 player " + wrong, INDEX, game, () -> game.placeBluff(wrong, 2, 0));
        }
        for (int wrong : new int[] {-1, 3, 12, Integer.MIN_VALUE, Integer.MAX_VALUE}) {
            checks.refused("6 site " + wrong, INDEX, game, () -> game.placeBid(0, wrong, 0));
            checks.refused("7 site " + wrong, INDEX, game, () -> game.placeBluff(0, wrong, 0));
        }
        for (int wrong : new int[] {0, -1, 100, Integer.MIN_VALUE, Integer.MAX_VALUE}) {
            checks.refused("6 amount " + wrong, ARGUMENT, game, () -> game.placeBid(0, 2, wrong));
            checks.refused("7 amount " + wrong, ARGUMENT, game, () -> game.placeBluff(0, 2, wrong));
            checks.refused("6 free site, amount " + wrong, ARGUMENT, game, () -> game.placeBid(0, 0, wrong));
        }
        checks.refused("6 built", STATE, game, () -> game.placeBid(0, 2, 99));
        checks.refused("7 built", STATE, game, () -> game.placeBluff(0, 2, 99));
        checks.due("6 amount 99", 0, () -> game.placeBid(3, 0, 99));
        checks.due("6 amount 1", 49, () -> game.placeBid(0, 1, 1));
    }

    private void placeBluff() {
        BridgeAuction game = threePlayers();
        checks.due("7 first", 1, () -> game.placeBluff(2, 0, 1));
        checks.due("7 more than the money", 1, () -> game.placeBluff(2, 0, 60));
        checks.due("7 reserves nothing", 4, () -> game.availableMoney(2));
        checks.due("7 is bluff", true, () -> game.isBluff(2, 0));
        checks.refused("7 equal", UNSUPPORTED, game, () -> game.placeBluff(0, 0, 60));
        checks.due("7 second", 2, () -> game.placeBluff(0, 0, 98));
        checks.due("7 highest", 3, () -> game.placeBluff(1, 0, 99));
        checks.refused("7 none above", UNSUPPORTED, game, () -> game.placeBluff(1, 0, 99));
        checks.due("6 bid on other site", 20, () -> game.placeBid(0, 1, 30));
        checks.due("7 replaces the genuine bid", 1, () -> game.placeBluff(0, 1, 31));
        checks.due("7 reservation is over", 50, () -> game.availableMoney(0));
    }

    private void withdrawBid() {
        BridgeAuction game = threePlayers();
        game.placeBid(0, 0, 20);
        game.placeBluff(1, 0, 30);
        for (int wrong : new int[] {-1, 3, Integer.MAX_VALUE}) {
            checks.refused("8 player " + wrong, INDEX, game, () -> game.withdrawBid(wrong, 0));
            checks.refused("8 site " + wrong, INDEX, game, () -> game.withdrawBid(0, wrong));
        }
        checks.refused("8 no bid", ELEMENT, game, () -> game.withdrawBid(2, 0));
        checks.refused("8 no bid on this site", ELEMENT, game, () -> game.withdrawBid(0, 1));
        game.playFerry(0, 0);
        checks.refused("8 ferry lies there", STATE, game, () -> game.withdrawBid(0, 0));
        checks.due("8 ferry of another", 30, () -> game.withdrawBid(1, 0));
        checks.due("8 one bid is left", 1, () -> game.bidCount(0));
        checks.refused("8 twice", ELEMENT, game, () -> game.withdrawBid(1, 0));
        game.placeBid(0, 1, 5);
        checks.due("8 ferry on another site", 5, () -> game.withdrawBid(0, 1));
        checks.due("8 money is free again", 30, () -> game.availableMoney(0));
        checks.due("8 lower bids are possible again", 1, () -> game.placeBluff(0, 1, 1));
    }

    private void playFerry() {
        BridgeAuction game = threePlayers();
        game.placeBid(0, 0, 5);
        game.placeBid(1, 0, 6);
        game.placeBluff(2, 0, 7);
        checks.refused("9 wrong suit", UNSUPPORTED, game, () -> game.playFerry(1, 0));
        checks.due("9 higher bids", 2, () -> game.playFerry(0, 0));
        checks.due("9 owner", 0, () -> game.ferryOwner(0));
        checks.due("9 used", true, () -> game.isFerryUsed(0));
        checks.due("9 not used", false, () -> game.isFerryUsed(1));
        game.setSuit(0, 3);
        game.setSuit(4, 3);
        checks.due("9 stays after setSuit", 0, () -> game.ferryOwner(0));
        game.placeBluff(0, 0, 9);
        checks.due("9 stays after a new bid", 0, () -> game.ferryOwner(0));
        BridgeAuction suits = threePlayers();
        suits.setSuit(4, 2);
        suits.placeBluff(2, 0, 7);
        suits.placeBluff(1, 1, 7);
        checks.due("9 suit of the higher island", 0, () -> suits.playFerry(2, 0));
        checks.due("9 suit 1", 0, () -> suits.playFerry(1, 1));
        suits.setSuit(0, 0);
        suits.placeBluff(0, 1, 9);
        suits.setSuit(4, 0);
        checks.refused("9 another lies there", STATE, suits, () -> suits.playFerry(0, 1));
    }

    private void playFerryOrder() {
        BridgeAuction game = threePlayers();
        game.placeBid(0, 0, 5);
        for (int wrong : new int[] {-1, 3, Integer.MAX_VALUE}) {
            checks.refused("9 player " + wrong, INDEX, game, () -> game.playFerry(wrong, 0));
            checks.refused("9 site " + wrong, INDEX, game, () -> game.playFerry(0, wrong));
        }
        checks.refused("9 no bid", ELEMENT, game, () -> game.playFerry(1, 0));
        game.playFerry(0, 0);
        checks.refused("9 no bid before used", ELEMENT, game, () -> game.playFerry(0, 1));
        game.placeBid(0, 2, 3);
        checks.refused("9 used before suit", STATE, game, () -> game.playFerry(0, 2));
        checks.refused("9 same site again", STATE, game, () -> game.playFerry(0, 0));
        game.placeBid(1, 0, 6);
        checks.refused("9 lying before suit", STATE, game, () -> game.playFerry(1, 0));
        game.settle(0);
        checks.refused("9 built site has no bid", ELEMENT, game, () -> game.playFerry(0, 0));
        game.placeBid(0, 1, 3);
        checks.refused("9 used after settling", STATE, game, () -> game.playFerry(0, 1));
    }

    private void settleGenuine() {
        BridgeAuction game = threePlayers();
        game.setTide(4);
        game.placeBid(0, 0, 6);
        game.placeBid(1, 0, 7);
        game.placeBid(0, 1, 20);
        checks.due("10 amount equals the cost", true, () -> game.settle(0));
        checks.due("10 builder", 1, () -> game.builder(0));
        checks.due("10 winner has paid", 53, () -> game.money(1));
        checks.due("10 loser has not", 50, () -> game.money(0));
        checks.due("10 loser's reservation is over", 30, () -> game.availableMoney(0));
        checks.due("10 bank", 7, game::bankMoney);
        checks.due("10 bids are gone", 0, () -> game.bidCount(0));
        checks.due("10 bids elsewhere stay", 20, () -> game.bidAmount(0, 1));
        game.placeBid(1, 2, 5);
        checks.due("10 one below the cost", false, () -> game.settle(2));
        checks.due("10 is paid all the same", 48, () -> game.money(1));
        checks.due("10 bank again", 12, game::bankMoney);
        checks.due("10 stays free", false, () -> game.isBuilt(2));
        checks.due("10 free without bids", 0, () -> game.bidCount(2));
        checks.due("10 settledTotal", 2, game::settledTotal);
        checks.due("10 bluffTotal", 0, game::bluffTotal);
        checks.due("10 can be bid for again", 47, () -> game.placeBid(1, 2, 1));
    }

    private void settleBluff() {
        BridgeAuction game = threePlayers();
        game.placeBid(0, 0, 10);
        game.placeBluff(1, 0, 90);
        checks.due("10 bluff builds nothing", false, () -> game.settle(0));
        checks.due("10 penalty", 55, () -> game.money(1));
        checks.due("10 no pay of the loser", 50, () -> game.money(0));
        checks.due("10 bank", 5, game::bankMoney);
        checks.due("10 bluffTotal", 1, game::bluffTotal);
        checks.due("10 free", false, () -> game.isBuilt(0));
        game.placeBluff(2, 0, 90);
        checks.due("10 poor bluff", false, () -> game.settle(0));
        checks.due("10 all available", 0, () -> game.money(2));
        checks.due("10 bank", 9, game::bankMoney);
        game.placeBid(1, 1, 52);
        game.placeBluff(1, 2, 60);
        game.settle(2);
        checks.due("10 reserved money is kept", 52, () -> game.money(1));
        checks.due("10 available is 0", 0, () -> game.availableMoney(1));
        game.placeBluff(1, 2, 60);
        game.settle(2);
        checks.due("10 nothing to pay", 52, () -> game.money(1));
        checks.due("10 bluffs so far", 4, game::bluffTotal);
        game.placeBluff(0, 2, 1);
        game.settle(2);
        checks.due("10 penalty of 5 though the bid was 1", 45, () -> game.money(0));
        BridgeAuction losing = threePlayers();
        losing.placeBluff(0, 0, 3);
        losing.placeBid(1, 0, 4);
        checks.due("10 a losing bluff", true, () -> losing.settle(0));
        checks.due("10 costs nothing", 50, () -> losing.money(0));
        checks.due("10 and does not count", 0, losing::bluffTotal);
    }

    private void settleWithFerry() {
        BridgeAuction game = threePlayers();
        game.placeBid(0, 0, 3);
        game.placeBid(1, 0, 30);
        game.playFerry(0, 0);
        checks.due("10 ferry trumps", true, () -> game.settle(0));
        checks.due("10 builder by ferry", 0, () -> game.builder(0));
        checks.due("10 pays the own amount", 47, () -> game.money(0));
        checks.due("10 ferry is removed", ELEMENT, () -> game.ferryOwner(0));
        checks.due("10 ferry stays used", true, () -> game.isFerryUsed(0));
        game.placeBluff(1, 2, 1);
        game.placeBid(0, 2, 40);
        game.playFerry(1, 2);
        checks.due("10 ferry on a bluff", false, () -> game.settle(2));
        checks.due("10 bluff by ferry", 55, () -> game.money(1));
        checks.due("10 ferry is off the free site", ELEMENT, () -> game.ferryOwner(2));
        game.placeBid(1, 2, 8);
        checks.due("10 bid of its former owner may go", 8, () -> game.withdrawBid(1, 2));
    }

    private void settleWrong() {
        BridgeAuction game = threePlayers();
        for (int wrong : new int[] {-1, 3, Integer.MIN_VALUE, Integer.MAX_VALUE}) {
            checks.refused("10 site " + wrong, INDEX, game, () -> game.settle(wrong));
        }
        checks.refused("10 no bids", ELEMENT, game, () -> game.settle(0));
        build(game, 0, 0);
        checks.refused("10 built", STATE, game, () -> game.settle(0));
        checks.due("10 refused calls do not count", 1, game::settledTotal);
    }

    // ---- promises 11 to 18

    private void suitAndTide() {
        BridgeAuction game = new BridgeAuction();
        for (int wrong : WRONG_ISLANDS) {
            checks.due("11 island " + wrong, INDEX, () -> game.suit(wrong));
        }
        checks.due("11 suit of 6", 2, () -> game.suit(6));
        game.setSuit(6, 1);
        checks.due("11 suit of 6 now", 1, () -> game.suit(6));
        checks.due("12 tide", 0, game::tide);
        game.setTide(6);
        checks.due("12 tide now", 6, game::tide);
    }

    private void playerCountAndMoney() {
        BridgeAuction game = threePlayers();
        checks.due("13 playerCount", 3, game::playerCount);
        game.placeBid(0, 0, 9);
        game.placeBid(0, 1, 1);
        checks.due("14 money with reserved money", 50, () -> game.money(0));
        checks.due("15 availableMoney", 40, () -> game.availableMoney(0));
        checks.due("14 money of the last", 4, () -> game.money(2));
        for (int wrong : new int[] {-1, 3, 4, Integer.MIN_VALUE, Integer.MAX_VALUE}) {
            checks.due("14 player " + wrong, INDEX, () -> game.money(wrong));
            checks.due("15 player " + wrong, INDEX, () -> game.availableMoney(wrong));
            checks.due("16 player " + wrong, INDEX, () -> game.isFerryUsed(wrong));
            checks.due("17 player " + wrong, INDEX, () -> game.bridgeCount(wrong));
            checks.due("18 player " + wrong, INDEX, () -> game.score(wrong));
        }
    }

    private void isFerryUsedOfPlayers() {
        BridgeAuction game = threePlayers();
        game.placeBid(1, 2, 4);
        checks.due("16 before", false, () -> game.isFerryUsed(1));
        game.playFerry(1, 2);
        checks.due("16 after", true, () -> game.isFerryUsed(1));
        checks.due("16 others", false, () -> game.isFerryUsed(0) || game.isFerryUsed(2));
        game.placeBid(0, 0, 1);
        game.playFerry(0, 0);
        checks.due("16 the second ferry", true, () -> game.isFerryUsed(0));
        checks.due("16 the first stays used", true, () -> game.isFerryUsed(1));
    }

    private void bridgeCountAndScore() {
        BridgeAuction game = threePlayers();
        checks.due("17 none", 0, () -> game.bridgeCount(0));
        checks.due("18 none", 0, () -> game.score(0));
        build(game, 0, 0);
        build(game, 0, 1);
        build(game, 1, 2);
        checks.due("17 of 0", 2, () -> game.bridgeCount(0));
        checks.due("17 of 1", 1, () -> game.bridgeCount(1));
        checks.due("17 of 2", 0, () -> game.bridgeCount(2));
        checks.due("18 with one bonus", 15, () -> game.score(0));
        checks.due("18 islands 1 and 5", 5, () -> game.score(1));
        game.setSuit(5, 0);
        checks.due("18 with two bonuses", 18, () -> game.score(0));
        checks.due("18 bonus lost", 2, () -> game.score(1));
        game.setTide(9);
        checks.due("18 the tide does not count", 2, () -> game.score(1));
    }

    // ---- promises 19 to 32

    private void siteFacts() {
        BridgeAuction game = threePlayers();
        checks.due("19 siteCount", 3, game::siteCount);
        checks.due("20 lowerIsland", 4, () -> game.lowerIsland(1));
        checks.due("21 higherIsland", 5, () -> game.higherIsland(1));
        checks.due("22 length", 9, () -> game.length(1));
        checks.due("23 buildingCost", 9, () -> game.buildingCost(1));
        build(game, 0, 1);
        game.setTide(7);
        checks.due("23 cost of a built site", 16, () -> game.buildingCost(1));
        checks.due("23 cost of a free site", 9, () -> game.buildingCost(2));
        checks.due("22 length at tide", 9, () -> game.length(1));
        for (int wrong : new int[] {-1, 3, 11, 12, Integer.MIN_VALUE, Integer.MAX_VALUE}) {
            checks.due("20 site " + wrong, INDEX, () -> game.lowerIsland(wrong));
            checks.due("21 site " + wrong, INDEX, () -> game.higherIsland(wrong));
            checks.due("22 site " + wrong, INDEX, () -> game.length(wrong));
            checks.due("23 site " + wrong, INDEX, () -> game.buildingCost(wrong));
            checks.due("24 site " + wrong, INDEX, () -> game.isBuilt(wrong));
            checks.due("25 site " + wrong, INDEX, () -> game.builder(wrong));
            checks.due("26 site " + wrong, INDEX, () -> game.bidCount(wrong));
            checks.due("27 site " + wrong, INDEX, () -> game.bidAmount(0, wrong));
            checks.due("28 site " + wrong, INDEX, () -> game.isBluff(0, wrong));
            checks.due("29 site " + wrong, INDEX, () -> game.ferryOwner(wrong));
            checks.due("30 site " + wrong, INDEX, () -> game.winningBidder(wrong));
            checks.due("31 site " + wrong, INDEX, () -> game.wouldBuild(wrong));
            checks.due("47 site " + wrong, INDEX, () -> game.renderSite(wrong));
        }
    }

    private void builtFacts() {
        BridgeAuction game = threePlayers();
        checks.due("24 free", false, () -> game.isBuilt(0));
        checks.due("25 free", ELEMENT, () -> game.builder(0));
        build(game, 1, 0);
        checks.due("24 built", true, () -> game.isBuilt(0));
        checks.due("25 built", 1, () -> game.builder(0));
        checks.due("26 built", 0, () -> game.bidCount(0));
        checks.due("27 built", ELEMENT, () -> game.bidAmount(1, 0));
        checks.due("28 built", ELEMENT, () -> game.isBluff(1, 0));
        checks.due("29 built", ELEMENT, () -> game.ferryOwner(0));
        checks.due("30 built", ELEMENT, () -> game.winningBidder(0));
    }

    private void bidFacts() {
        BridgeAuction game = threePlayers();
        game.placeBid(2, 0, 3);
        game.placeBluff(0, 0, 77);
        checks.due("26 two", 2, () -> game.bidCount(0));
        checks.due("26 none", 0, () -> game.bidCount(1));
        game.placeBid(1, 2, 1);
        checks.due("26 an amount of 1", 1, () -> game.bidCount(2));
        checks.due("27 genuine", 3, () -> game.bidAmount(2, 0));
        checks.due("27 bluff", 77, () -> game.bidAmount(0, 0));
        checks.due("27 none", ELEMENT, () -> game.bidAmount(1, 0));
        checks.due("28 genuine", false, () -> game.isBluff(2, 0));
        checks.due("28 bluff", true, () -> game.isBluff(0, 0));
        checks.due("28 none", ELEMENT, () -> game.isBluff(2, 1));
        for (int wrong : new int[] {-1, 3, 4, Integer.MAX_VALUE}) {
            checks.due("27 player " + wrong, INDEX, () -> game.bidAmount(wrong, 0));
            checks.due("28 player " + wrong, INDEX, () -> game.isBluff(wrong, 0));
        }
    }

    private void ferryAndWinner() {
        BridgeAuction game = threePlayers();
        checks.due("29 none", ELEMENT, () -> game.ferryOwner(2));
        checks.due("30 none", ELEMENT, () -> game.winningBidder(2));
        game.placeBid(1, 2, 4);
        checks.due("30 only bid", 1, () -> game.winningBidder(2));
        game.placeBluff(0, 2, 5);
        checks.due("30 bluff is highest", 0, () -> game.winningBidder(2));
        game.placeBid(2, 1, 4);
        game.playFerry(1, 2);
        checks.due("29 owner", 1, () -> game.ferryOwner(2));
        checks.due("30 ferry wins", 1, () -> game.winningBidder(2));
        checks.due("30 other site", 2, () -> game.winningBidder(1));
        checks.due("29 other site", ELEMENT, () -> game.ferryOwner(1));
    }

    private void wouldBuild() {
        BridgeAuction game = threePlayers();
        checks.due("31 no bids", ELEMENT, () -> game.wouldBuild(0));
        game.placeBid(0, 0, 2);
        checks.due("31 below the cost", false, () -> game.wouldBuild(0));
        game.placeBid(0, 0, 3);
        checks.due("31 the cost", true, () -> game.wouldBuild(0));
        game.setTide(1);
        checks.due("31 the tide rose", false, () -> game.wouldBuild(0));
        game.placeBid(0, 0, 5);
        game.placeBluff(1, 0, 50);
        checks.due("31 bluff", false, () -> game.wouldBuild(0));
        game.playFerry(0, 0);
        checks.due("31 ferry", true, () -> game.wouldBuild(0));
        checks.due("31 nothing is settled", 0, game::settledTotal);
        game.settle(0);
        checks.due("31 built", STATE, () -> game.wouldBuild(0));
    }

    private void cheapestFreeSite() {
        BridgeAuction game = new BridgeAuction();
        checks.due("32 no sites", ELEMENT, game::cheapestFreeSite);
        game.addPlayer(99);
        game.addSite(0, 1, 5);
        game.addSite(0, 2, 3);
        game.addSite(0, 3, 3);
        game.addSite(0, 4, 4);
        checks.due("32 lowest index", 1, game::cheapestFreeSite);
        build(game, 0, 1);
        checks.due("32 next", 2, game::cheapestFreeSite);
        game.setTide(9);
        checks.due("32 at tide", 2, game::cheapestFreeSite);
        build(game, 0, 2);
        checks.due("32 fourth", 3, game::cheapestFreeSite);
        build(game, 0, 3);
        checks.due("32 first", 0, game::cheapestFreeSite);
        build(game, 0, 0);
        checks.due("32 all built", ELEMENT, game::cheapestFreeSite);
    }

    // ---- promises 33 to 39

    private void graphWithoutBridges() {
        BridgeAuction game = threePlayers();
        checks.due("33 free sites do not connect", false, () -> game.isConnected(0, 4));
        checks.due("33 same island", true, () -> game.isConnected(7, 7));
        checks.due("34 same island", 0, () -> game.distance(7, 7));
        checks.due("34 not connected", ELEMENT, () -> game.distance(0, 4));
        checks.due("35 same island", 0, () -> game.distanceByRelaxation(0, 0));
        checks.due("35 not connected", ELEMENT, () -> game.distanceByRelaxation(0, 4));
        checks.due("36 all apart", 8, game::componentCount);
        checks.due("37 all apart", 8, game::componentCountByUnion);
        checks.due("38 nothing", 0, game::forestLength);
        checks.due("39 nothing", 0, game::forestLengthByPrim);
    }

    /** A square 0-1-2-3 with a diagonal, a triangle 4-5-6, and island 7 alone. */
    private static BridgeAuction squareAndTriangle() {
        BridgeAuction game = new BridgeAuction();
        game.addPlayer(99);
        bridge(game, 0, 0, 1, 9);
        bridge(game, 0, 1, 2, 2);
        bridge(game, 0, 3, 2, 4);
        bridge(game, 0, 0, 3, 1);
        bridge(game, 0, 0, 2, 8);
        bridge(game, 0, 4, 5, 5);
        bridge(game, 0, 5, 6, 5);
        bridge(game, 0, 6, 4, 5);
        game.addSite(6, 7, 1);
        return game;
    }

    private void graphWithBridges() {
        BridgeAuction game = squareAndTriangle();
        checks.due("33 connected", true, () -> game.isConnected(3, 1));
        checks.due("33 other part", false, () -> game.isConnected(3, 4));
        checks.due("33 lone island", false, () -> game.isConnected(7, 6));
        int[][] due = {{0, 1, 7}, {0, 2, 5}, {1, 3, 6}, {2, 1, 2}, {3, 0, 1}, {4, 6, 5}, {5, 5, 0}};
        for (int[] row : due) {
            String pair = row[0] + " " + row[1];
            checks.due("34 " + pair, row[2], () -> game.distance(row[0], row[1]));
            checks.due("34 turned " + pair, row[2], () -> game.distance(row[1], row[0]));
            checks.due("35 " + pair, row[2], () -> game.distanceByRelaxation(row[0], row[1]));
            checks.due("35 turned " + pair, row[2], () -> game.distanceByRelaxation(row[1], row[0]));
        }
        checks.due("34 other part", ELEMENT, () -> game.distance(0, 4));
        checks.due("35 other part", ELEMENT, () -> game.distanceByRelaxation(7, 0));
        checks.due("36 three parts", 3, game::componentCount);
        checks.due("37 three parts", 3, game::componentCountByUnion);
        checks.due("38 forest", 17, game::forestLength);
        checks.due("39 forest", 17, game::forestLengthByPrim);
        game.setTide(9);
        checks.due("34 the tide does not count", 7, () -> game.distance(0, 1));
        checks.due("38 the tide does not count", 17, game::forestLength);
    }

    /** A path of seven edges in an order that lets relaxation carry one edge a round from either end. */
    private void longPath() {
        BridgeAuction game = new BridgeAuction();
        game.addPlayer(99);
        int[] path = {7, 2, 5, 0, 6, 1, 4, 3};
        for (int i = 0; i < 7; i++) {
            bridge(game, 0, path[i], path[i + 1], 9);
        }
        checks.due("34 path", 63, () -> game.distance(7, 3));
        checks.due("34 path back", 63, () -> game.distance(3, 7));
        checks.due("35 path", 63, () -> game.distanceByRelaxation(7, 3));
        checks.due("35 path back", 63, () -> game.distanceByRelaxation(3, 7));
        checks.due("36 one part", 1, game::componentCount);
        checks.due("37 one part", 1, game::componentCountByUnion);
        checks.due("38 path", 63, game::forestLength);
        checks.due("39 path", 63, game::forestLengthByPrim);
        checks.due("33 path", true, () -> game.isConnected(3, 7));
        checks.due("46 path", true, game::isConsistent);
    }

    private void graphWrongIslands() {
        BridgeAuction game = squareAndTriangle();
        for (int wrong : WRONG_ISLANDS) {
            checks.due("33 first " + wrong, INDEX, () -> game.isConnected(wrong, 0));
            checks.due("33 second " + wrong, INDEX, () -> game.isConnected(0, wrong));
            checks.due("33 both " + wrong, INDEX, () -> game.isConnected(wrong, wrong));
            checks.due("34 first " + wrong, INDEX, () -> game.distance(wrong, 0));
            checks.due("34 second " + wrong, INDEX, () -> game.distance(0, wrong));
            checks.due("34 both " + wrong, INDEX, () -> game.distance(wrong, wrong));
            checks.due("35 first " + wrong, INDEX, () -> game.distanceByRelaxation(wrong, 0));
            checks.due("35 second " + wrong, INDEX, () -> game.distanceByRelaxation(0, wrong));
            checks.due("35 both " + wrong, INDEX, () -> game.distanceByRelaxation(wrong, wrong));
        }
    }

    // ---- promises 40 to 46

    private void playerByScore() {
        BridgeAuction game = new BridgeAuction();
        checks.due("40 no players", ELEMENT, () -> game.playerByScore(0));
        game.addPlayer(20);
        game.addPlayer(30);
        game.addPlayer(30);
        game.addPlayer(25);
        ranks("40 by money, then index", game, 1, 2, 3, 0);
        bridge(game, 0, 0, 1, 4);
        ranks("40 by score", game, 0, 1, 2, 3);
        bridge(game, 3, 0, 2, 4);
        ranks("40 equal score, by money", game, 3, 0, 1, 2);
        bridge(game, 2, 1, 2, 5);
        ranks("40 higher score", game, 2, 3, 0, 1);
        game.placeBid(3, game.addSite(4, 5, 1), 15);
        ranks("40 reserved money counts", game, 2, 3, 0, 1);
        for (int wrong : new int[] {-1, 4, Integer.MIN_VALUE, Integer.MAX_VALUE}) {
            checks.due("40 rank " + wrong, ELEMENT, () -> game.playerByScore(wrong));
        }
    }

    private void ranks(String what, BridgeAuction game, int... players) {
        for (int i = 0; i < players.length; i++) {
            int rank = i;
            checks.due(what + ", rank " + i, players[i], () -> game.playerByScore(rank));
        }
    }

    private void totals() {
        BridgeAuction game = threePlayers();
        build(game, 0, 0);
        game.placeBid(1, 1, 8);
        game.settle(1);
        game.placeBluff(2, 1, 8);
        game.settle(1);
        run(game, "bluff 0 1 01;settle 1");
        checks.due("41 bankMoney", 20, game::bankMoney);
        checks.due("42 settledTotal", 4, game::settledTotal);
        checks.due("43 bluffTotal", 2, game::bluffTotal);
        game.undo();
        checks.due("41 undone", 15, game::bankMoney);
        checks.due("42 undone", 3, game::settledTotal);
        checks.due("43 undone", 1, game::bluffTotal);
    }

    private void meansAndShares() {
        BridgeAuction game = new BridgeAuction();
        checks.due("44 no sites", ARITHMETIC, game::meanBridgeLength);
        checks.due("45 no sites", ARITHMETIC, game::builtShare);
        game.addPlayer(99);
        game.addSite(0, 1, 9);
        checks.due("44 none built", ARITHMETIC, game::meanBridgeLength);
        checks.due("45 none built", 0.0f, game::builtShare);
        bridge(game, 0, 1, 2, 4);
        checks.due("44 one", 4.0, game::meanBridgeLength);
        checks.due("45 one of two", 0.5f, game::builtShare);
        bridge(game, 0, 2, 3, 4);
        bridge(game, 0, 3, 4, 2);
        game.addSite(4, 5, 1);
        game.addSite(5, 6, 1);
        game.addSite(6, 7, 1);
        checks.due("44 three", 10.0 / 3.0, game::meanBridgeLength);
        checks.due("45 three of seven", 3.0f / 7.0f, game::builtShare);
        game.setTide(9);
        checks.due("44 the tide does not count", 10.0 / 3.0, game::meanBridgeLength);
    }

    private void consistency() {
        BridgeAuction game = new BridgeAuction();
        checks.due("46 new", true, game::isConsistent);
        checks.due("46 graph", true, () -> squareAndTriangle().isConsistent());
        BridgeAuction poor = threePlayers();
        poor.placeBid(0, 0, 50);
        poor.placeBluff(0, 1, 9);
        poor.settle(1);
        poor.placeBluff(2, 1, 9);
        poor.settle(1);
        checks.due("46 after bluffs", true, poor::isConsistent);
        poor.settle(0);
        poor.addPlayer(9);
        checks.due("46 with a late player", true, poor::isConsistent);
        undoAll(poor);
        checks.due("46 after undo", true, poor::isConsistent);
    }

    // ---- promises 47 to 49

    private void rendered(String what, BridgeAuction game, int site, String due) {
        checks.due(what + " length", due.length(), () -> game.renderSite(site));
        checks.due(what, due, () -> Sight.outputOf(game));
    }

    private void renderSite() {
        BridgeAuction game = new BridgeAuction();
        game.addPlayer(20);
        game.addPlayer(20);
        game.addPlayer(20);
        game.addSite(3, 0, 5);
        rendered("47 no bids", game, 0, "0-3/5");
        game.placeBid(0, 0, 7);
        game.placeBluff(1, 0, 9);
        rendered("47 two bids", game, 0, "0-3/5 0:7 1:9?");
        game.setSuit(3, 1);
        game.playFerry(1, 0);
        rendered("47 the example", game, 0, "0-3/5 0:7 1:9?*");
        game.placeBid(1, 0, 10);
        rendered("47 genuine with ferry", game, 0, "0-3/5 0:7 1:10*");
        checks.refused("47 wrong site keeps the text", INDEX, game, () -> game.renderSite(1));
        game.setTide(9);
        rendered("47 length without the tide", game, 0, "0-3/5 0:7 1:10*");
        game.setTide(0);
        game.withdrawBid(0, 0);
        game.placeBid(2, 0, 12);
        rendered("47 in the order of the players", game, 0, "0-3/5 1:10* 2:12");
        game.settle(0);
        rendered("47 built", game, 0, "0-3/5=1");
    }

    private void renderFourBids() {
        BridgeAuction game = new BridgeAuction();
        for (int i = 0; i < 4; i++) {
            game.addPlayer(99);
        }
        game.addSite(6, 7, 9);
        for (int player = 3; player >= 0; player--) {
            game.placeBluff(player, 0, 99 - player);
        }
        game.playFerry(3, 0);
        rendered("47 longest", game, 0, "6-7/9 0:99? 1:98? 2:97? 3:96?*");
        game.addSite(2, 1, 1);
        rendered("47 shorter text afterwards", game, 1, "1-2/1");
    }

    private void outputAt() {
        BridgeAuction game = threePlayers();
        for (int wrong : new int[] {-1, 0, 1, Integer.MIN_VALUE, Integer.MAX_VALUE}) {
            checks.due("48 empty " + wrong, INDEX, () -> game.outputAt(wrong));
        }
        game.renderSite(1);
        checks.due("48 first", '4', () -> game.outputAt(0));
        checks.due("48 second", '-', () -> game.outputAt(1));
        checks.due("48 last", '9', () -> game.outputAt(4));
        checks.due("48 behind", INDEX, () -> game.outputAt(5));
        checks.due("48 before", INDEX, () -> game.outputAt(-1));
        build(game, 0, 1);
        checks.due("48 only renderSite replaces it", "4-5/9", () -> Sight.outputOf(game));
    }

    private void type() {
        BridgeAuction game = new BridgeAuction();
        checks.due("49 code 31", ARGUMENT, () -> game.type((char) 31));
        checks.due("49 code 127", ARGUMENT, () -> game.type((char) 127));
        checks.due("49 code 0", ARGUMENT, () -> game.type((char) 0));
        checks.due("49 code 65535", ARGUMENT, () -> game.type((char) 65535));
        checks.due("49 code 32", 1, () -> game.type((char) 32));
        checks.due("49 code 126", 2, () -> game.type((char) 126));
        for (int i = 3; i <= 60; i++) {
            checks.due("49 character " + i, i, () -> game.type('x'));
        }
        checks.due("49 full", STATE, () -> game.type('x'));
        checks.due("49 argument before full", ARGUMENT, () -> game.type((char) 127));
        checks.due("50 error in the full buffer", ARGUMENT, game::runScript);
        checks.due("51 first character", 0, game::errorPosition);
        checks.due("49 empty again", 1, () -> game.type('x'));
    }

    // ---- promises 50 to 52

    private void everyCommand() {
        BridgeAuction game = new BridgeAuction();
        checks.due("50 players", 3, () -> run(game, "player 5;player 60;player 07"));
        checks.due("50 sites", 2, () -> run(game, "site 5 2 9;site 0 4 1"));
        checks.due("50 bids", 4, () -> run(game, "bid 0 1 5;bluff 1 1 9;ferry 0 1;drop 1 1"));
        rendered("50 ferry and drop", game, 1, "0-4/1 0:5*");
        checks.due("50 bluff", 1, () -> run(game, "bluff 2 00 42"));
        rendered("50 bluff text", game, 0, "2-5/9 2:42?");
        checks.due("50 suit, tide, settle", 4, () -> run(game, "suit 0 3;tide 4;settle 1;settle 00"));
        checks.due("50 suit", 3, () -> game.suit(0));
        checks.due("50 tide", 4, game::tide);
        checks.due("50 built", 0, () -> game.builder(1));
        checks.due("50 bluff was paid", 2, () -> game.money(2));
        checks.due("50 bid was paid", 0, () -> game.money(0));
        checks.due("50 settledTotal", 2, game::settledTotal);
        checks.due("50 each script is one change", 5, () -> undoAll(game));
    }

    private void scriptNumbers() {
        BridgeAuction game = threePlayers();
        checks.due("50 two digits", 1, () -> run(game, "player 99"));
        checks.due("50 money", 99, () -> game.money(3));
        checks.due("50 one digit", 1, () -> run(game, "bid 3 2 9"));
        checks.due("50 leading zero", 1, () -> run(game, "bid 3 02 10"));
        checks.due("50 amount", 10, () -> game.bidAmount(3, 2));
        for (int i = 3; i < 12; i++) {
            game.addSite(i < 9 ? 6 : 7, i < 9 ? i - 3 : i - 9, 1);
        }
        checks.due("50 site 11", 1, () -> run(game, "bluff 0 11 3"));
        checks.due("50 site 11 has it", 3, () -> game.bidAmount(0, 11));
        checks.due("50 site 12", STATE, () -> run(game, "settle 12"));
        checks.due("50 site 99", STATE, () -> run(game, "drop 0 99"));
    }

    private void malformed(String text, int position) {
        BridgeAuction game = threePlayers();
        typeAll(game, text);
        checks.due("50 form of '" + text + "'", ARGUMENT, game::runScript);
        checks.due("51 position in '" + text + "'", position, game::errorPosition);
        checks.due("52 after '" + text + "'", ELEMENT, game::failedCommand);
        checks.due("50 emptied after '" + text + "'", 1, () -> game.type(' '));
    }

    private void scriptForm() {
        malformed("", 0);
        malformed(" ", 0);
        malformed(";", 0);
        malformed("x", 0);
        malformed("Tide 1", 0);
        malformed("s", 1);
        malformed("sa", 1);
        malformed("su", 2);
        malformed("sut", 2);
        malformed("sit 1", 3);
        malformed("site1", 4);
        malformed("site  1", 5);
        malformed("site 01 2 3", 6);
        malformed("site 0 1", 8);
        malformed("site 0 1 ", 9);
        malformed("site 0 1 10", 10);
        malformed("site 0 1 2 3", 10);
        malformed("settle", 6);
        malformed("settle ", 7);
        malformed("settle a", 7);
        malformed("settle 123", 9);
        malformed("settle -1", 7);
        malformed("b", 1);
        malformed("bl", 2);
        malformed("bi", 2);
        malformed("blid", 2);
        malformed("bid 10 1 1", 5);
        malformed("bid 0 10 ", 9);
        malformed("bid 0 100", 8);
        malformed("bid 0 1 100", 10);
        malformed("bid 0 1;", 7);
        malformed("bluff 0 1", 9);
        malformed("ferry 0", 7);
        malformed("ferry 0 ", 8);
        malformed("ferry 0 1 2", 9);
        malformed("drop 00", 6);
        malformed("tide", 4);
        malformed("tide 10", 6);
        malformed("tide 1 ", 6);
        malformed("tide 1;", 7);
        malformed("tide 1; tide 2", 7);
        malformed("tide 1;;tide 2", 7);
        malformed("tide 1,tide 2", 6);
        malformed("tide 1;tide x", 12);
        malformed("tide 1;tidy 1", 10);
        malformed("player 1;player", 15);
        malformed("player 100", 9);
        malformed("player 1 ", 8);
        malformed("suit 0 44", 8);
        malformed("suit 00 1", 6);
        malformed("~", 0);
        malformed("tide /", 5);
        malformed("tide :", 5);
        malformed("player 1/", 8);
        malformed("player 1:", 8);
    }

    private void failing(String text, int command) {
        BridgeAuction game = threePlayers();
        build(game, 0, 2);
        String before = Sight.of(game).replaceAll("failedCommand.*", "");
        typeAll(game, text);
        checks.due("50 failure of '" + text + "'", STATE, game::runScript);
        checks.due("52 command of '" + text + "'", command, game::failedCommand);
        checks.due("51 after '" + text + "'", ELEMENT, game::errorPosition);
        checks.due("50 state after '" + text + "'", before,
                () -> Sight.of(game).replaceAll("failedCommand.*", ""));
        checks.due("50 emptied after '" + text + "'", 1, () -> game.type(' '));
    }

    private void scriptFailures() {
        failing("player 5;player 5", 1);
        failing("site 8 0 1", 0);
        failing("site 0 0 1", 0);
        failing("site 0 1 0", 0);
        failing("site 4 0 5", 0);
        failing("suit 8 0", 0);
        failing("suit 0 4", 0);
        failing("tide 3;suit 9 0", 1);
        failing("bid 3 0 1", 0);
        failing("bid 0 0 0", 0);
        failing("bid 0 2 1", 0);
        failing("bid 0 0 99", 0);
        failing("bid 0 0 5;bid 1 0 5", 1);
        failing("bluff 0 3 1", 0);
        failing("bluff 0 0 00", 0);
        failing("bluff 0 0 7;bluff 0 0 7", 1);
        failing("ferry 0 0", 0);
        failing("bid 0 0 5;ferry 0 0;ferry 0 0", 2);
        failing("bid 0 0 5;ferry 0 0;drop 0 0", 2);
        failing("drop 0 0", 0);
        failing("settle 0", 0);
        failing("settle 2", 0);
        failing("tide 5;bid 0 0 8;settle 0;settle 0;tide 1", 3);
    }

    private void scriptAllOrNothing() {
        BridgeAuction game = threePlayers();
        checks.due("50 fails at the end", STATE, () -> run(game, "tide 5;bid 0 0 9;settle 0;player 1;player 1"));
        checks.due("52 fourth", 4, game::failedCommand);
        checks.due("50 no tide", 0, game::tide);
        checks.due("50 no player", 3, game::playerCount);
        checks.due("50 nothing built", false, () -> game.isBuilt(0));
        checks.due("50 nothing settled", 0, game::settledTotal);
        checks.due("50 a form error plays nothing", ARGUMENT, () -> run(game, "tide 5;tide"));
        checks.due("50 still no tide", 0, game::tide);
        checks.due("50 only setting up can be undone", 6, () -> undoAll(game));
    }

    private void scriptOfSixty() {
        BridgeAuction game = new BridgeAuction();
        String sixty = "tide 1;tide 2;tide 3;tide 4;tide 5;tide 6;suit 0 1;settle 12";
        checks.due("50 length of the text", 60, sixty::length);
        checks.due("50 last of sixty fails", STATE, () -> run(game, sixty));
        checks.due("52 the eighth command", 7, game::failedCommand);
        String tides = "tide 1;tide 2;tide 3;tide 4;tide 5;tide 6;suit 0 1;player 12";
        checks.due("50 sixty characters", 8, () -> run(game, tides));
        checks.due("50 all played", 6, game::tide);
        String open = "tide 1;tide 2;tide 3;tide 4;tide 5;tide 6;suit 0 1;player 7;";
        checks.due("50 ends on a semicolon", ARGUMENT, () -> run(game, open));
        checks.due("51 behind the last", 60, game::errorPosition);
    }

    private void errorPositionAndFailedCommand() {
        BridgeAuction game = new BridgeAuction();
        checks.due("50 error", ARGUMENT, () -> run(game, "tide x"));
        checks.due("50 failure", STATE, () -> run(game, "tide 1;settle 0"));
        checks.due("51 the failure keeps it", 5, game::errorPosition);
        checks.due("52 failure", 1, game::failedCommand);
        checks.due("50 right", 1, () -> run(game, "tide 1"));
        checks.due("51 a right script keeps it", 5, game::errorPosition);
        checks.due("52 a right script keeps it", 1, game::failedCommand);
        checks.due("50 error", ARGUMENT, () -> run(game, "tod"));
        checks.due("51 latest", 1, game::errorPosition);
        checks.due("52 the error keeps it", 1, game::failedCommand);
        checks.due("50 failure", STATE, () -> run(game, "settle 0"));
        checks.due("52 latest", 0, game::failedCommand);
    }

    // ---- promises 53 to 55

    private void undone(String what, BridgeAuction game, Checks.Call change) {
        String before = Sight.of(game);
        change.answer();
        game.undo();
        checks.due("53 " + what, before, () -> Sight.of(game));
        change.answer();
    }

    private void undoEveryChange() {
        BridgeAuction game = new BridgeAuction();
        undone("addPlayer", game, () -> game.addPlayer(30));
        undone("addPlayer again", game, () -> game.addPlayer(40));
        undone("addSite", game, () -> game.addSite(0, 4, 5));
        undone("addSite again", game, () -> game.addSite(1, 4, 5));
        undone("setSuit", game, () -> game.setSuit(1, 3));
        undone("setTide", game, () -> game.setTide(3));
        undone("placeBid", game, () -> game.placeBid(0, 0, 9));
        undone("placeBluff", game, () -> game.placeBluff(0, 0, 10));
        undone("bid for bluff", game, () -> game.placeBid(0, 0, 11));
        undone("playFerry", game, () -> game.playFerry(0, 0));
        undone("bluff of another", game, () -> game.placeBluff(1, 0, 30));
        undone("withdrawBid", game, () -> game.withdrawBid(1, 0));
        undone("settle", game, () -> game.settle(0));
        undone("bluff", game, () -> game.placeBluff(1, 1, 30));
        undone("settled bluff", game, () -> game.settle(1));
        undone("runScript", game, () -> run(game, "tide 9;suit 0 2;player 3;site 6 7 1"));
        checks.due("53 ferry after undo and again", true, () -> game.isFerryUsed(0));
        checks.due("53 consistent", true, game::isConsistent);
    }

    private void undoDepth() {
        BridgeAuction game = new BridgeAuction();
        for (int level = 1; level <= 9; level++) {
            game.setTide(level);
        }
        for (int left = 7; left >= 4; left--) {
            checks.due("53 left", left, game::undo);
        }
        checks.due("53 tide after four", 5, game::tide);
        checks.due("53 same level is a change", 5, () -> game.setTide(5));
        checks.due("53 left after a new change", 4, game::undo);
        for (int left = 3; left >= 0; left--) {
            checks.due("53 left", left, game::undo);
        }
        checks.due("53 the ninth is lost", 1, game::tide);
        checks.refused("53 nothing left", ELEMENT, game, game::undo);
        game.setTide(7);
        checks.due("53 changes after the end", 0, game::undo);
        checks.due("53 no redo", ELEMENT, game::undo);
        for (int i = 0; i < 30; i++) {
            game.setSuit(3, i % 4);
        }
        checks.due("53 thirty changes", 8, () -> undoAll(game));
        checks.due("53 suit of the twenty-second", 1, () -> game.suit(3));
    }

    private void undoOfScript() {
        BridgeAuction game = new BridgeAuction();
        for (int level = 1; level <= 8; level++) {
            game.setTide(level);
        }
        checks.due("53 failing script", STATE, () -> run(game, "tide 9;settle 0"));
        checks.due("53 malformed script", ARGUMENT, () -> run(game, "tide"));
        checks.due("53 refused call", ARGUMENT, () -> game.setTide(10));
        checks.due("53 none of them is a change", 8, () -> undoAll(game));
        checks.due("53 all undone", 0, game::tide);
        run(game, "tide 3;tide 4;player 5");
        checks.due("53 a script is one change", 0, game::undo);
        checks.due("53 tide", 0, game::tide);
        checks.due("53 player", 0, game::playerCount);
    }

    private void undoLeavesRest() {
        BridgeAuction game = threePlayers();
        game.renderSite(0);
        checks.due("53 error", ARGUMENT, () -> run(game, "tide x"));
        checks.due("53 failure", STATE, () -> run(game, "tide 1;settle 0"));
        game.setTide(2);
        typeAll(game, "tide ");
        game.renderSite(1);
        game.save();
        game.undo();
        checks.due("53 tide", 0, game::tide);
        checks.due("53 output text", "4-5/9", () -> Sight.outputOf(game));
        checks.due("53 error position", 5, game::errorPosition);
        checks.due("53 failed command", 1, game::failedCommand);
        checks.due("53 script buffer", 6, () -> game.type('8'));
        checks.due("53 script", 1, game::runScript);
        checks.due("53 tide of the script", 8, game::tide);
        checks.due("53 snapshot", 3, game::restore);
        checks.due("53 tide of the snapshot", 2, game::tide);
    }

    private void saveAndRestore() {
        BridgeAuction game = new BridgeAuction();
        checks.refused("55 no snapshot", STATE, game, game::restore);
        game.setTide(3);
        checks.due("54 of no players", 0, game::save);
        checks.due("54 is no change", 0, game::undo);
        checks.due("55 brings back", 0, game::restore);
        checks.due("55 tide", 3, game::tide);
        checks.due("55 nothing to undo", ELEMENT, game::undo);
        BridgeAuction full = threePlayers();
        full.placeBid(0, 0, 5);
        full.placeBid(1, 0, 6);
        full.playFerry(0, 0);
        full.setSuit(7, 1);
        String before = Sight.of(full);
        checks.due("54 players", 3, full::save);
        full.settle(0);
        full.addPlayer(9);
        full.addSite(6, 7, 8);
        full.placeBluff(3, 3, 8);
        full.setSuit(7, 0);
        full.setTide(9);
        full.settle(3);
        checks.due("55 players", 3, full::restore);
        checks.due("55 everything", before, () -> Sight.of(full));
        checks.due("55 not undoable", ELEMENT, full::undo);
        full.setTide(4);
        checks.due("55 undo of later changes", 0, full::undo);
        checks.due("55 undone to the snapshot", before, () -> Sight.of(full));
        full.setTide(4);
        checks.due("55 is kept", 3, full::restore);
        checks.due("55 everything again", before, () -> Sight.of(full));
        full.setTide(5);
        full.addPlayer(1);
        checks.due("54 replaces", 4, full::save);
        full.setTide(6);
        checks.due("55 the later one", 4, full::restore);
        checks.due("55 its tide", 5, full::tide);
    }

    private void restoreLeavesRest() {
        BridgeAuction game = threePlayers();
        game.save();
        checks.due("55 error", ARGUMENT, () -> run(game, "tide x"));
        checks.due("55 failure", STATE, () -> run(game, "tide 1;settle 0"));
        game.renderSite(1);
        typeAll(game, "tide ");
        game.restore();
        checks.due("55 output text", "4-5/9", () -> Sight.outputOf(game));
        checks.due("55 error position", 5, game::errorPosition);
        checks.due("55 failed command", 1, game::failedCommand);
        checks.due("55 script buffer", 6, () -> game.type('8'));
        checks.due("55 script", 1, game::runScript);
        checks.due("55 tide", 8, game::tide);
    }
}
