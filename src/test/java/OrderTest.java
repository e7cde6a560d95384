/** Calls to which several exceptions apply: each two that can apply at once, and all that can. */
public final class OrderTest extends Suite {
    private static final String FIRST = "If several exceptions apply, the one that is listed first is thrown.";

    private static final int[] NO_ISLANDS = {-1, 8, Integer.MIN_VALUE, Integer.MAX_VALUE};
    private static final int[] NO_PLAYERS = {-1, 4, Integer.MIN_VALUE, Integer.MAX_VALUE};
    private static final int[] NO_SITES = {-1, 12, Integer.MIN_VALUE, Integer.MAX_VALUE};
    private static final int[] NO_AMOUNTS = {-1, 0, 100, Integer.MIN_VALUE, Integer.MAX_VALUE};

    /**
     * Twelve sites and four players. Site 0 is built; on site 1 players 1 (with a ferry) and 2 have bids; on site 2
     * player 1 has a bid too; player 0 has played the ferry on site 3; player 3 has bids on sites 1 and 5 of foreign
     * suits, and no money left.
     */
    private static final Start TABLE = Games.FULL.then(game -> {
        Games.build(game, 0, 0);
        game.placeBid(1, 1, 10);
        game.placeBluff(2, 1, 30);
        game.playFerry(1, 1);
        game.placeBid(1, 2, 5);
        game.placeBid(0, 3, 5);
        game.playFerry(0, 3);
        game.setSuit(0, 2);
        game.placeBid(3, 5, 58);
        game.setSuit(3, 2);
        game.placeBid(3, 1, 41);
    });

    public static void main(String[] arguments) {
        new OrderTest().run();
    }

    @Sentence(promise = 0, text = FIRST)
    void orderOfAddPlayer() {
        for (int wrong : new int[] {-1, 100, Integer.MIN_VALUE, Integer.MAX_VALUE}) {
            refused("money before four players", ARGUMENT, TABLE, game -> game.addPlayer(wrong));
        }
        refused("four players alone", STATE, TABLE, game -> game.addPlayer(99));
    }

    @Sentence(promise = 0, text = FIRST)
    void orderOfAddSite() {
        for (int wrong : NO_ISLANDS) {
            for (int length : new int[] {0, 5, 10}) {
                refused("first island", INDEX, TABLE, game -> game.addSite(wrong, 0, length));
                refused("second island", INDEX, TABLE, game -> game.addSite(4, wrong, length));
                refused("the same island twice", INDEX, TABLE, game -> game.addSite(wrong, wrong, length));
                refused("island before length", INDEX, Games.THREE, game -> game.addSite(wrong, 0, length));
                refused("island before equality", INDEX, Games.THREE, game -> game.addSite(wrong, wrong, length));
            }
        }
        for (int wrong : new int[] {-1, 0, 10, Integer.MIN_VALUE, Integer.MAX_VALUE}) {
            refused("length before pair", ARGUMENT, Games.THREE, game -> game.addSite(0, 4, wrong));
            refused("length before pair turned", ARGUMENT, Games.THREE, game -> game.addSite(4, 0, wrong));
            refused("length before twelve sites", ARGUMENT, TABLE, game -> game.addSite(4, 6, wrong));
            refused("length before pair and twelve", ARGUMENT, TABLE, game -> game.addSite(4, 0, wrong));
            refused("equality and length before twelve", ARGUMENT, TABLE, game -> game.addSite(6, 6, wrong));
        }
        refused("equality before twelve sites", ARGUMENT, TABLE, game -> game.addSite(6, 6, 5));
        for (int[] site : Games.SITES) {
            refused("pair before twelve sites", UNSUPPORTED, TABLE, game -> game.addSite(site[0], site[1], 5));
            refused("pair turned before twelve", UNSUPPORTED, TABLE, game -> game.addSite(site[1], site[0], 5));
        }
        refused("twelve sites alone", STATE, TABLE, game -> game.addSite(4, 6, 5));
    }

    @Sentence(promise = 0, text = FIRST)
    void orderOfSetSuit() {
        for (int wrong : NO_ISLANDS) {
            for (int suit : new int[] {-1, 0, 4, Integer.MIN_VALUE, Integer.MAX_VALUE}) {
                refused("island before suit", INDEX, TABLE, game -> game.setSuit(wrong, suit));
            }
        }
        refused("suit alone", ARGUMENT, TABLE, game -> game.setSuit(7, 4));
    }

    private interface Placing {
        int on(BridgeAuction game, int player, int site, int amount);
    }

    private void orderOfPlacing(Placing call) {
        for (int amount : new int[] {0, 10, 31, 100}) {
            for (int wrong : NO_PLAYERS) {
                refused("player before amount", INDEX, TABLE, game -> call.on(game, wrong, 2, amount));
                refused("player before bridge", INDEX, TABLE, game -> call.on(game, wrong, 0, amount));
                refused("player before highest amount", INDEX, TABLE, game -> call.on(game, wrong, 1, amount));
            }
            for (int wrong : NO_SITES) {
                refused("site before amount", INDEX, TABLE, game -> call.on(game, 0, wrong, amount));
                refused("site before money", INDEX, TABLE, game -> call.on(game, 3, wrong, amount));
                refused("player and site", INDEX, TABLE, game -> call.on(game, 4, wrong, amount));
            }
        }
        for (int wrong : NO_AMOUNTS) {
            refused("amount before bridge", ARGUMENT, TABLE, game -> call.on(game, 3, 0, wrong));
            refused("amount before highest amount", ARGUMENT, TABLE, game -> call.on(game, 0, 1, wrong));
            refused("amount before highest and money", ARGUMENT, TABLE, game -> call.on(game, 3, 2, wrong));
        }
        refused("bridge alone", STATE, TABLE, game -> call.on(game, 1, 0, 50));
        refused("highest amount alone", UNSUPPORTED, TABLE, game -> call.on(game, 2, 1, 41));
    }

    @Sentence(promise = 0, text = FIRST)
    void orderOfPlaceBid() {
        orderOfPlacing(BridgeAuction::placeBid);
        refused("bridge before money", STATE, TABLE, game -> game.placeBid(3, 0, 1));
        refused("bridge before money of others", STATE, TABLE, game -> game.placeBid(0, 0, 99));
        refused("highest amount and money", UNSUPPORTED, TABLE, game -> game.placeBid(3, 2, 5));
        refused("money alone", UNSUPPORTED, TABLE, game -> game.placeBid(3, 2, 6));
    }

    @Sentence(promise = 0, text = FIRST)
    void orderOfPlaceBluff() {
        orderOfPlacing(BridgeAuction::placeBluff);
        refused("bridge, without money", STATE, TABLE, game -> game.placeBluff(3, 0, 1));
        answers("a bluff needs no money", 2, TABLE, game -> game.placeBluff(3, 2, 6));
    }

    @Sentence(promise = 0, text = FIRST)
    void orderOfWithdrawBid() {
        for (int wrong : NO_PLAYERS) {
            for (int site = 0; site < 4; site++) {
                int there = site;
                refused("player before bid", INDEX, TABLE, game -> game.withdrawBid(wrong, there));
            }
        }
        for (int wrong : NO_SITES) {
            refused("site before bid", INDEX, TABLE, game -> game.withdrawBid(1, wrong));
            refused("player and site", INDEX, TABLE, game -> game.withdrawBid(4, wrong));
        }
        refused("bid before the ferry of another", ELEMENT, TABLE, game -> game.withdrawBid(0, 1));
        refused("bid before the own ferry elsewhere", ELEMENT, TABLE, game -> game.withdrawBid(0, 2));
        refused("ferry alone", STATE, TABLE, game -> game.withdrawBid(1, 1));
    }

    @Sentence(promise = 0, text = FIRST)
    void orderOfPlayFerry() {
        for (int wrong : NO_PLAYERS) {
            for (int site = 0; site < 4; site++) {
                int there = site;
                refused("player before all else", INDEX, TABLE, game -> game.playFerry(wrong, there));
            }
        }
        for (int wrong : NO_SITES) {
            refused("site before bid", INDEX, TABLE, game -> game.playFerry(2, wrong));
            refused("site before ferry", INDEX, TABLE, game -> game.playFerry(0, wrong));
            refused("player and site", INDEX, TABLE, game -> game.playFerry(4, wrong));
        }
        refused("bid before the used ferry", ELEMENT, TABLE, game -> game.playFerry(0, 5));
        refused("bid before the ferry there", ELEMENT, TABLE, game -> game.playFerry(2, 3));
        refused("bid before both", ELEMENT, TABLE, game -> game.playFerry(0, 1));
        refused("bid before the suit", ELEMENT, TABLE, game -> game.playFerry(3, 2));
        refused("bid before used ferry and suit", ELEMENT, TABLE, game -> game.playFerry(0, 2));
        refused("bid of a bridge", ELEMENT, TABLE, game -> game.playFerry(0, 0));
        Start bids = TABLE.then(game -> {
            game.placeBid(0, 2, 6);
            game.placeBid(0, 1, 42);
        });
        refused("used ferry before suit", STATE, bids, game -> game.playFerry(0, 2));
        refused("ferry there before suit", STATE, bids, game -> game.playFerry(3, 1));
        refused("ferry there alone", STATE, bids.then(game -> game.setSuit(5, 2)), game -> game.playFerry(2, 1));
        refused("both ferries", STATE, bids, game -> game.playFerry(0, 1));
        refused("used ferry, both and suit", STATE, bids.then(game -> game.setSuit(4, 2)),
                game -> game.playFerry(0, 1));
        refused("suit alone", UNSUPPORTED, TABLE, game -> game.playFerry(3, 5));
    }

    @Sentence(promise = 0, text = FIRST)
    void orderOfSettle() {
        for (int wrong : NO_SITES) {
            refused("site", INDEX, TABLE, game -> game.settle(wrong));
            refused("site, wouldBuild", INDEX, TABLE, game -> game.wouldBuild(wrong));
        }
        refused("bridge before no bids", STATE, TABLE, game -> game.settle(0));
        refused("bridge before no bids, wouldBuild", STATE, TABLE, game -> game.wouldBuild(0));
        refused("no bids alone", ELEMENT, TABLE, game -> game.settle(4));
        refused("no bids alone, wouldBuild", ELEMENT, TABLE, game -> game.wouldBuild(4));
    }

    @Sentence(promise = 0, text = FIRST)
    void orderOfQuestions() {
        for (int wrong : NO_PLAYERS) {
            refused("player before bid, amount", INDEX, TABLE, game -> game.bidAmount(wrong, 4));
            refused("player before bid, bluff", INDEX, TABLE, game -> game.isBluff(wrong, 4));
        }
        for (int wrong : NO_SITES) {
            refused("site before bid, amount", INDEX, TABLE, game -> game.bidAmount(0, wrong));
            refused("site before bid, bluff", INDEX, TABLE, game -> game.isBluff(0, wrong));
            refused("site before builder", INDEX, TABLE, game -> game.builder(wrong));
            refused("site before ferry", INDEX, TABLE, game -> game.ferryOwner(wrong));
            refused("site before winner", INDEX, TABLE, game -> game.winningBidder(wrong));
        }
        for (int wrong : NO_ISLANDS) {
            for (int right : new int[] {0, 7}) {
                refused("island before way", INDEX, TABLE, game -> game.distance(wrong, right));
                refused("island behind", INDEX, TABLE, game -> game.distance(right, wrong));
                refused("island before way, relaxed", INDEX, TABLE, game -> game.distanceByRelaxation(wrong, right));
                refused("island behind, relaxed", INDEX, TABLE, game -> game.distanceByRelaxation(right, wrong));
            }
        }
    }

    @Sentence(promise = 0, text = FIRST)
    void orderOfType() {
        Start full = game -> Games.typeAll(game, "x".repeat(60));
        for (char wrong : new char[] {0, 31, 127, 0xffff}) {
            refusedAsIs("code before the full buffer", ARGUMENT, full, game -> game.type(wrong));
        }
        refusedAsIs("full buffer alone", STATE, full, game -> game.type('x'));
    }

    @Sentence(promise = 0, text = FIRST)
    void orderOfRunScript() {
        String[] scripts = {"settle 99;x", "settle 99;", "tide 1;settle 99;tide", "suit 9 9;tide 10", "player 1;bid"};
        for (String script : scripts) {
            Start typed = TABLE.then(game -> Games.typeAll(game, script));
            answers("form before command: " + script, ARGUMENT, typed, BridgeAuction::runScript);
            Start run = typed.then(game -> Checks.answerOf(game::runScript));
            answers("no failed command: " + script, ELEMENT, run, BridgeAuction::failedCommand);
        }
    }
}
