import java.util.NoSuchElementException;

/** States to start from, and runs of calls that many tests need. */
final class Games {
    static final Start EMPTY = game -> {
    };

    /** Players with 50, 60 and 4; sites 0: 0-4 length 3, 1: 4-5 length 9, 2: 1-5 length 2. */
    static final Start THREE = game -> {
        addPlayers(game, 50, 60, 4);
        addSites(game, 3);
    };

    /** Four players with 99 each, and twelve sites. */
    static final Start FULL = game -> {
        addPlayers(game, 99, 99, 99, 99);
        addSites(game, 12);
    };

    /** Player 0 has built site 0; a bid with a ferry and a bluff lie on site 1; player 2 lost all as a bluff. */
    static final Start BUSY = THREE.then(game -> {
        game.addPlayer(99);
        build(game, 0, 0);
        game.setTide(2);
        game.setSuit(0, 2);
        game.placeBluff(2, 2, 7);
        game.settle(2);
        game.placeBid(1, 1, 10);
        game.playFerry(1, 1);
        game.placeBluff(3, 1, 20);
    });

    /** The islands and the length of each of the twelve sites. */
    static final int[][] SITES = {{0, 4, 3}, {4, 5, 9}, {1, 5, 2}, {0, 1, 1}, {0, 2, 2}, {0, 3, 3}, {1, 2, 4},
        {1, 3, 5}, {2, 3, 6}, {5, 6, 7}, {6, 7, 8}, {4, 7, 9}};

    private Games() {
    }

    static void addPlayers(BridgeAuction game, int... moneys) {
        for (int money : moneys) {
            game.addPlayer(money);
        }
    }

    static void addSites(BridgeAuction game, int count) {
        for (int site = 0; site < count; site++) {
            game.addSite(SITES[site][0], SITES[site][1], SITES[site][2]);
        }
    }

    static void build(BridgeAuction game, int player, int site) {
        game.placeBid(player, site, game.buildingCost(site));
        game.settle(site);
    }

    /** Adds and builds a bridge that the player pays with its building cost. */
    static void bridge(BridgeAuction game, int player, int first, int second, int length) {
        build(game, player, game.addSite(first, second, length));
    }

    static void typeAll(BridgeAuction game, String text) {
        for (char character : text.toCharArray()) {
            game.type(character);
        }
    }

    static int run(BridgeAuction game, String text) {
        typeAll(game, text);
        return game.runScript();
    }

    /** Runs a script that the game refuses. */
    static void runInVain(BridgeAuction game, String text) {
        typeAll(game, text);
        try {
            game.runScript();
        } catch (IllegalArgumentException | IllegalStateException e) {
            return;
        }
        throw new IllegalStateException("the game did not refuse " + text);
    }

    /** How many changes could be undone. */
    static int undoAll(BridgeAuction game) {
        int count = 0;
        try {
            for (int i = 0; i < 100; i++) {
                game.undo();
                count++;
            }
        } catch (NoSuchElementException e) {
            return count;
        }
        return count;
    }

    /** The start with all that a refused call could lose: what scripts left, a snapshot, an output text. */
    static Start traced(Start start) {
        return game -> {
            runInVain(game, "tide x");
            runInVain(game, "tide 1;settle 99");
            game.save();
            start.on(game);
            if (game.siteCount() > 0) {
                game.renderSite(0);
            }
            typeAll(game, "tide ");
        };
    }
}
