/** Promises 1 to 5: a new object, players, sites, suits and the tide. */
public final class SettingUpTest extends Suite {
    public static void main(String[] arguments) {
        new SettingUpTest().run();
    }

    // ---- promise 1: a new object

    @Sentence(promise = 1, text = "Creates a game without players and sites.")
    void newObject() {
        Start fresh = Games.EMPTY;
        answers("playerCount", 0, fresh, BridgeAuction::playerCount);
        answers("siteCount", 0, fresh, BridgeAuction::siteCount);
        answers("bankMoney", 0, fresh, BridgeAuction::bankMoney);
        answers("settledTotal", 0, fresh, BridgeAuction::settledTotal);
        answers("bluffTotal", 0, fresh, BridgeAuction::bluffTotal);
        answers("isConsistent", true, fresh, BridgeAuction::isConsistent);
        answers("money", INDEX, fresh, game -> game.money(0));
        answers("length", INDEX, fresh, game -> game.length(0));
        answers("playerByScore", ELEMENT, fresh, game -> game.playerByScore(0));
        answers("cheapestFreeSite", ELEMENT, fresh, BridgeAuction::cheapestFreeSite);
        answers("meanBridgeLength", ARITHMETIC, fresh, BridgeAuction::meanBridgeLength);
        answers("builtShare", ARITHMETIC, fresh, BridgeAuction::builtShare);
        answers("outputAt", INDEX, fresh, game -> game.outputAt(0));
        answers("undo", ELEMENT, fresh, BridgeAuction::undo);
        answers("restore", STATE, fresh, BridgeAuction::restore);
        answers("errorPosition", ELEMENT, fresh, BridgeAuction::errorPosition);
        answers("failedCommand", ELEMENT, fresh, BridgeAuction::failedCommand);
        answers("type", 1, fresh, game -> game.type('x'));
        BridgeAuction one = new BridgeAuction();
        BridgeAuction other = new BridgeAuction();
        String before = Sight.of(one);
        Games.FULL.then(game -> Games.build(game, 0, 0)).on(other);
        other.save();
        due("objects are apart", before, () -> Sight.of(one));
        due("their snapshots too", STATE, one::restore);
    }

    // ---- promise 2: addPlayer

    @Sentence(promise = 2, text = "Adds a player.")
    @Sentence(promise = 2, text = "Returns the index of the player.")
    void addPlayer() {
        BridgeAuction game = new BridgeAuction();
        int[] moneys = {0, 99, 1, 98};
        for (int i = 0; i < 4; i++) {
            int player = i;
            due("index", i, () -> game.addPlayer(moneys[player]));
            due("count", i + 1, game::playerCount);
            due("money", moneys[i], () -> game.money(player));
            due("available", moneys[i], () -> game.availableMoney(player));
            due("ferry", false, () -> game.isFerryUsed(player));
            due("bridges", 0, () -> game.bridgeCount(player));
        }
        due("undone", 3, game::undo);
        due("three are left", 3, game::playerCount);
        due("the index is given again", 3, () -> game.addPlayer(7));
        due("with the new money", 7, () -> game.money(3));
    }

    @Sentence(promise = 2, text = "Throws `IllegalArgumentException` if the money is not between 0 and 99")
    void addPlayerWithWrongMoney() {
        for (int wrong : new int[] {-1, 100, -99, 256, 65536, Integer.MIN_VALUE, Integer.MAX_VALUE}) {
            refused("money " + wrong, ARGUMENT, Games.EMPTY, game -> game.addPlayer(wrong));
            refused("money " + wrong + " of a fourth", ARGUMENT, Games.THREE, game -> game.addPlayer(wrong));
        }
        for (int right : new int[] {0, 1, 98, 99}) {
            answers("money " + right, 3, Games.THREE, game -> game.addPlayer(right));
        }
    }

    @Sentence(promise = 2, text = "Throws `IllegalStateException` if there are 4 players")
    void addPlayerToFour() {
        for (int right : new int[] {0, 50, 99}) {
            answers("to three", 3, Games.THREE, game -> game.addPlayer(right));
            refused("to four", STATE, Games.FULL, game -> game.addPlayer(right));
            refused("to four in play", STATE, Games.BUSY, game -> game.addPlayer(right));
        }
        Start undone = game -> {
            Games.addPlayers(game, 1, 2, 3, 4);
            game.undo();
        };
        answers("to three again", 3, undone, game -> game.addPlayer(5));
    }

    // ---- promise 3: addSite

    @Sentence(promise = 3, text = "Adds a free site.")
    @Sentence(promise = 3, text = "Returns the index of the site.")
    void addSite() {
        BridgeAuction game = new BridgeAuction();
        for (int i = 0; i < 12; i++) {
            int site = i;
            due("index", i, () -> game.addSite(Games.SITES[site][1], Games.SITES[site][0], Games.SITES[site][2]));
            due("count", i + 1, game::siteCount);
            due("lower island", Games.SITES[i][0], () -> game.lowerIsland(site));
            due("higher island", Games.SITES[i][1], () -> game.higherIsland(site));
            due("length", Games.SITES[i][2], () -> game.length(site));
            due("free", false, () -> game.isBuilt(site));
            due("no bids", 0, () -> game.bidCount(site));
            due("no ferry", ELEMENT, () -> game.ferryOwner(site));
        }
        BridgeAuction used = Games.BUSY.make();
        used.addSite(6, 7, 1);
        Games.build(used, 0, 3);
        used.undo();
        used.placeBluff(3, 3, 50);
        Games.undoAll(used);
        due("sites are gone", 3, () -> used.addSite(6, 7, 2));
        due("a site at a former one's place is free", false, () -> used.isBuilt(3));
        due("and has no bids", 0, () -> used.bidCount(3));
    }

    @Sentence(promise = 3,
            text = "Throws `IndexOutOfBoundsException` if there is no such island, for either argument")
    void addSiteAtNoIsland() {
        noSuchIsland((game, island) -> game.addSite(island, 6, 1));
        noSuchIsland((game, island) -> game.addSite(6, island, 1));
        for (int wrong : new int[] {-1, 8}) {
            refused("both " + wrong, INDEX, Games.EMPTY, game -> game.addSite(wrong, wrong, 1));
            refused("the other way", INDEX, Games.EMPTY, game -> game.addSite(wrong, 7 - wrong, 1));
        }
    }

    @Sentence(promise = 3, text = "Throws `IllegalArgumentException` if both arguments are the same island, or the "
            + "length is not between 1 and 9")
    void addSiteWithWrongArguments() {
        for (int i = 0; i < 8; i++) {
            int island = i;
            refused("both " + i, ARGUMENT, Games.THREE, game -> game.addSite(island, island, 5));
        }
        for (int wrong : new int[] {-1, 0, 10, 11, 257, 65537, Integer.MIN_VALUE, Integer.MAX_VALUE}) {
            refused("length " + wrong, ARGUMENT, Games.THREE, game -> game.addSite(6, 7, wrong));
            refused("length " + wrong + " for one island", ARGUMENT, Games.THREE, game -> game.addSite(6, 6, wrong));
        }
        for (int right : new int[] {1, 2, 8, 9}) {
            answers("length " + right, 3, Games.THREE, game -> game.addSite(6, 7, right));
        }
    }

    @Sentence(promise = 3, text = "Throws `UnsupportedOperationException` if there is a site for this pair of islands")
    void addSiteForAPairAgain() {
        for (int i = 0; i < 12; i++) {
            int[] site = Games.SITES[i];
            Start start = game -> Games.addSites(game, 11);
            Deed again = game -> game.addSite(site[0], site[1], 1);
            Deed turned = game -> game.addSite(site[1], site[0], 1);
            if (i < 11) {
                refused("pair of site " + i, UNSUPPORTED, start, again);
                refused("pair of site " + i + " turned", UNSUPPORTED, start, turned);
            } else {
                answers("pair of no site", 11, start, again);
                answers("pair of no site turned", 11, start, turned);
            }
        }
        refused("pair of a built site", UNSUPPORTED, Games.BUSY, game -> game.addSite(4, 0, 3));
        Start undone = game -> {
            game.addSite(0, 1, 1);
            game.undo();
        };
        answers("pair of a site undone", 0, undone, game -> game.addSite(1, 0, 1));
    }

    @Sentence(promise = 3, text = "Throws `IllegalStateException` if there are 12 sites")
    void addSiteToTwelve() {
        Start eleven = game -> Games.addSites(game, 11);
        for (int length : new int[] {1, 9}) {
            answers("to eleven", 11, eleven, game -> game.addSite(4, 6, length));
            refused("to twelve", STATE, Games.FULL, game -> game.addSite(4, 6, length));
        }
        Start undone = game -> {
            Games.addSites(game, 12);
            game.undo();
        };
        answers("to eleven again", 11, undone, game -> game.addSite(4, 6, 5));
    }

    // ---- promise 4: setSuit

    @Sentence(promise = 4, text = "Sets the suit of an island.")
    @Sentence(promise = 4, text = "Returns the previous suit.")
    void setSuit() {
        for (int i = 0; i < 8; i++) {
            int island = i;
            BridgeAuction game = new BridgeAuction();
            due("from the first suit", i % 4, () -> game.setSuit(island, 3));
            due("from 3", 3, () -> game.setSuit(island, 0));
            due("from 0", 0, () -> game.setSuit(island, 0));
            due("from 0 again", 0, () -> game.setSuit(island, 2));
            due("now", 2, () -> game.suit(island));
            for (int j = 0; j < 8; j++) {
                int other = j;
                due("suit of " + j, i == j ? 2 : j % 4, () -> game.suit(other));
            }
        }
    }

    @Sentence(promise = 4, text = "Throws `IndexOutOfBoundsException` if there is no such island")
    void setSuitOfNoIsland() {
        noSuchIsland((game, island) -> game.setSuit(island, 0));
        noSuchIsland((game, island) -> game.setSuit(island, 3));
    }

    @Sentence(promise = 4, text = "Throws `IllegalArgumentException` if the suit is not between 0 and 3")
    void setSuitToNoSuit() {
        for (int wrong : new int[] {-1, 4, 5, 256, 65536, Integer.MIN_VALUE, Integer.MAX_VALUE}) {
            for (int island : new int[] {0, 7}) {
                refused("suit " + wrong, ARGUMENT, Games.BUSY, game -> game.setSuit(island, wrong));
            }
        }
        for (int right = 0; right <= 3; right++) {
            int suit = right;
            answers("suit " + right, 3, Games.BUSY, game -> game.setSuit(7, suit));
        }
    }

    // ---- promise 5: setTide

    @Sentence(promise = 5, text = "Sets the tide level.")
    @Sentence(promise = 5, text = "Returns the previous level.")
    void setTide() {
        BridgeAuction game = Games.THREE.make();
        int[] levels = {0, 9, 9, 1, 0, 8};
        for (int i = 1; i < levels.length; i++) {
            int step = i;
            due("previous", levels[i - 1], () -> game.setTide(levels[step]));
            due("now", levels[i], game::tide);
            due("cost of length 3", 3 + levels[i], () -> game.buildingCost(0));
        }
        game.undo();
        due("previous one undone", 0, () -> game.setTide(4));
    }

    @Sentence(promise = 5, text = "Throws `IllegalArgumentException` if the level is not between 0 and 9")
    void setTideToNoLevel() {
        for (int wrong : new int[] {-1, 10, 11, 256, 65536, Integer.MIN_VALUE, Integer.MAX_VALUE}) {
            refused("level " + wrong, ARGUMENT, Games.EMPTY, game -> game.setTide(wrong));
            refused("level " + wrong + " in play", ARGUMENT, Games.BUSY, game -> game.setTide(wrong));
        }
        for (int right : new int[] {0, 1, 8, 9}) {
            answers("level " + right, 2, Games.BUSY, game -> game.setTide(right));
        }
    }
}
