/** Promises 11 to 19: questions about islands, the tide, players, and the number of sites. */
public final class PlayersTest extends Suite {
    public static void main(String[] arguments) {
        new PlayersTest().run();
    }

    @Sentence(promise = 11, text = "Returns the suit of an island.")
    @Sentence(promise = 11, text = "Returns the suit.")
    void suit() {
        BridgeAuction game = new BridgeAuction();
        for (int i = 0; i < 8; i++) {
            int island = i;
            due("at first", i % 4, () -> game.suit(island));
            game.setSuit(i, 3 - i % 4);
            due("set", 3 - i % 4, () -> game.suit(island));
        }
        game.undo();
        due("undone", 3, () -> game.suit(7));
        due("set before", 1, () -> game.suit(6));
    }

    @Sentence(promise = 11, text = "Throws `IndexOutOfBoundsException` if there is no such island")
    void suitOfNoIsland() {
        noSuchIsland(BridgeAuction::suit);
    }

    @Sentence(promise = 12, text = "Returns the tide level.")
    @Sentence(promise = 12, text = "Returns the level.")
    void tide() {
        answers("at first", 0, Games.EMPTY, BridgeAuction::tide);
        for (int i = 0; i <= 9; i++) {
            int level = i;
            Start tide = game -> game.setTide(level);
            answers("level " + i, i, tide, BridgeAuction::tide);
            answers("undone", 0, tide.then(BridgeAuction::undo), BridgeAuction::tide);
        }
        answers("by a script", 7, game -> Games.run(game, "tide 7"), BridgeAuction::tide);
    }

    @Sentence(promise = 13, text = "Returns the number of players.")
    void playerCount() {
        for (int i = 0; i <= 4; i++) {
            int count = i;
            answers("of " + i, i, game -> Games.addPlayers(game, new int[count]), BridgeAuction::playerCount);
        }
        Start refused = Games.FULL.then(game -> Checks.answerOf(() -> game.addPlayer(1)));
        answers("after a refused one", 4, refused, BridgeAuction::playerCount);
        answers("after undo", 2, game -> {
            Games.addPlayers(game, 1, 2, 3);
            game.undo();
        }, BridgeAuction::playerCount);
    }

    @Sentence(promise = 14, text = "Returns the money of a player, including reserved money.")
    @Sentence(promise = 14, text = "Returns the money.")
    void money() {
        for (int money : new int[] {0, 1, 98, 99}) {
            answers("at first", money, game -> Games.addPlayers(game, 5, money), game -> game.money(1));
        }
        Start bids = Games.FULL.then(game -> {
            game.placeBid(3, 0, 49);
            game.placeBid(3, 1, 50);
        });
        answers("all reserved", 99, bids, game -> game.money(3));
        answers("one paid", 50, bids.then(game -> game.settle(0)), game -> game.money(3));
        answers("both paid", 0, bids.then(game -> game.settle(0)).then(game -> game.settle(1)),
                game -> game.money(3));
        answers("money of another", 99, bids.then(game -> game.settle(0)), game -> game.money(2));
    }

    @Sentence(promise = 14, text = "Throws `IndexOutOfBoundsException` if there is no such player")
    void moneyOfNoPlayer() {
        noSuchPlayer(BridgeAuction::money);
    }

    @Sentence(promise = 15, text = "Returns the available money of a player.")
    @Sentence(promise = 15, text = "Returns the available money.")
    void availableMoney() {
        Start bids = Games.FULL.then(game -> {
            game.placeBid(3, 0, 49);
            game.placeBid(3, 11, 49);
        });
        answers("without bids", 99, Games.FULL, game -> game.availableMoney(3));
        answers("with bids on the first and the last", 1, bids, game -> game.availableMoney(3));
        answers("with nothing left", 0, bids.then(game -> game.placeBid(3, 5, 1)), game -> game.availableMoney(3));
        answers("with a bluff", 1, bids.then(game -> game.placeBluff(3, 5, 99)), game -> game.availableMoney(3));
        answers("after settling", 1, bids.then(game -> game.settle(0)), game -> game.availableMoney(3));
        answers("after losing", 50, bids.then(game -> {
            game.placeBid(2, 0, 50);
            game.settle(0);
        }), game -> game.availableMoney(3));
        answers("of another", 99, bids, game -> game.availableMoney(2));
    }

    @Sentence(promise = 15, text = "Throws `IndexOutOfBoundsException` if there is no such player")
    void availableMoneyOfNoPlayer() {
        noSuchPlayer(BridgeAuction::availableMoney);
    }

    @Sentence(promise = 16, text = "Returns whether the ferry of a player is used.")
    @Sentence(promise = 16, text = "Returns true if it is used.")
    void isFerryUsed() {
        for (int i = 0; i < 4; i++) {
            int player = i;
            Start played = Games.FULL.then(game -> {
                game.setSuit(0, player);
                game.placeBluff(player, 0, 1);
                game.playFerry(player, 0);
            });
            for (int j = 0; j < 4; j++) {
                int other = j;
                answers("before", false, Games.FULL, game -> game.isFerryUsed(other));
                answers("of " + j + " when " + i + " played", i == j, played, game -> game.isFerryUsed(other));
            }
            answers("after settling", true, played.then(game -> game.settle(0)), game -> game.isFerryUsed(player));
            answers("undone", false, played.then(BridgeAuction::undo), game -> game.isFerryUsed(player));
        }
        BridgeAuction game = Games.FULL.make();
        for (int i = 0; i < 4; i++) {
            int player = i;
            game.setSuit(Games.SITES[i][0], i);
            game.placeBid(i, i, 1);
            game.playFerry(i, i);
            due("after more ferries", true, () -> game.isFerryUsed(player));
        }
        due("the first", true, () -> game.isFerryUsed(0));
        game.undo();
        due("the last undone", false, () -> game.isFerryUsed(3));
        due("the third", true, () -> game.isFerryUsed(2));
    }

    @Sentence(promise = 16, text = "Throws `IndexOutOfBoundsException` if there is no such player")
    void isFerryUsedOfNoPlayer() {
        noSuchPlayer(BridgeAuction::isFerryUsed);
    }

    @Sentence(promise = 17, text = "Returns how many sites a player has built.")
    @Sentence(promise = 17, text = "Returns the number of sites.")
    void bridgeCount() {
        BridgeAuction game = Games.FULL.make();
        game.setTide(1);
        for (int i = 0; i < 12; i++) {
            int count = i;
            due("of the builder", count, () -> game.bridgeCount(3));
            due("of another", 0, () -> game.bridgeCount(0));
            game.placeBluff(0, i, 1);
            Games.build(game, 3, i);
        }
        due("all", 12, () -> game.bridgeCount(3));
        game.undo();
        due("one undone", 11, () -> game.bridgeCount(3));
        Start cheap = Games.THREE.then(there -> {
            there.placeBid(0, 0, 2);
            there.settle(0);
        });
        answers("paid below the cost", 0, cheap, there -> there.bridgeCount(0));
    }

    @Sentence(promise = 17, text = "Throws `IndexOutOfBoundsException` if there is no such player")
    void bridgeCountOfNoPlayer() {
        noSuchPlayer(BridgeAuction::bridgeCount);
    }

    @Sentence(promise = 18, text = "Returns the score of a player.")
    @Sentence(promise = 18, text = "Returns the score.")
    void score() {
        for (int length = 1; length <= 9; length++) {
            int due = length;
            Start bridge = game -> {
                game.addPlayer(99);
                Games.bridge(game, 0, 0, 1, due);
            };
            answers("length " + length, length, bridge, game -> game.score(0));
            answers("with equal suits", length + 3, bridge.then(game -> game.setSuit(0, 1)), game -> game.score(0));
        }
        answers("without bridges", 0, Games.FULL, game -> game.score(3));
        answers("of another", 0, Games.BUSY, game -> game.score(1));
        answers("suits differ by now", 3, Games.BUSY, game -> game.score(0));
    }

    @Sentence(promise = 18, text = "Throws `IndexOutOfBoundsException` if there is no such player")
    void scoreOfNoPlayer() {
        noSuchPlayer(BridgeAuction::score);
    }

    @Sentence(promise = 19, text = "Returns the number of sites.")
    void siteCount() {
        for (int i = 0; i <= 12; i++) {
            int count = i;
            answers("of " + i, i, game -> Games.addSites(game, count), BridgeAuction::siteCount);
        }
        Start refused = Games.FULL.then(game -> Checks.answerOf(() -> game.addSite(4, 6, 1)));
        answers("after a refused one", 12, refused, BridgeAuction::siteCount);
        answers("free and built", 3, Games.BUSY, BridgeAuction::siteCount);
        answers("after undo", 1, game -> {
            Games.addSites(game, 2);
            game.undo();
        }, BridgeAuction::siteCount);
    }
}
