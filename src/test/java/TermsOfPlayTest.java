import java.util.Arrays;

/** The document's "Terms" from the islands to the score: each limit just below it, at it and just above it. */
public final class TermsOfPlayTest extends Suite {
    private static final int[] NO_ISLANDS = {-1, 8, Integer.MIN_VALUE, Integer.MAX_VALUE};

    public static void main(String[] arguments) {
        new TermsOfPlayTest().run();
    }

    // ---- islands

    @Sentence(promise = 0, text = "There are 8 islands with the indices 0 to 7.")
    void eightIslands() {
        answers("components without bridges", 8, Games.EMPTY, BridgeAuction::componentCount);
        for (int i = 0; i < 8; i++) {
            int island = i;
            answers("suit of " + i, i % 4, Games.EMPTY, game -> game.suit(island));
            answers("setSuit of " + i, i % 4, Games.EMPTY, game -> game.setSuit(island, 0));
            answers("site from " + i, 0, Games.EMPTY, game -> game.addSite(island, (island + 1) % 8, 5));
            answers("distance of " + i, 0, Games.EMPTY, game -> game.distance(island, island));
        }
        for (int wrong : NO_ISLANDS) {
            refused("suit of " + wrong, INDEX, Games.EMPTY, game -> game.suit(wrong));
            refused("setSuit of " + wrong, INDEX, Games.EMPTY, game -> game.setSuit(wrong, 0));
            refused("site from " + wrong, INDEX, Games.EMPTY, game -> game.addSite(wrong, 0, 5));
            refused("distance of " + wrong, INDEX, Games.EMPTY, game -> game.distance(wrong, wrong));
        }
    }

    @Sentence(promise = 0, text = "Each island has a suit from 0 to 3.")
    void fourSuits() {
        for (int i = 0; i < 8; i++) {
            int island = i;
            BridgeAuction game = new BridgeAuction();
            for (int given : new int[] {3, 0, 1, 2, 3}) {
                game.setSuit(island, given);
                due("suit of " + i, given, () -> game.suit(island));
            }
            refused("suit -1 for " + i, ARGUMENT, Games.EMPTY, there -> there.setSuit(island, -1));
            refused("suit 4 for " + i, ARGUMENT, Games.EMPTY, there -> there.setSuit(island, 4));
        }
    }

    @Sentence(promise = 0, text = "The initial suit of an island is the remainder of its index divided by 4.")
    void initialSuits() {
        int[] suits = {0, 1, 2, 3, 0, 1, 2, 3};
        for (int i = 0; i < 8; i++) {
            int island = i;
            answers("island " + i, suits[i], Games.EMPTY, game -> game.suit(island));
        }
    }

    // ---- players

    @Sentence(promise = 0, text = "At most 4 players take part.")
    void fourPlayers() {
        for (int i = 0; i < 4; i++) {
            int count = i;
            Start some = game -> Games.addPlayers(game, new int[count]);
            answers("after " + i, i, some, game -> game.addPlayer(1));
            answers("count after " + i, i, some, BridgeAuction::playerCount);
        }
        refused("after 4", STATE, Games.FULL, game -> game.addPlayer(1));
        answers("count at 4", 4, Games.FULL, BridgeAuction::playerCount);
    }

    @Sentence(promise = 0, text = "They have the indices 0 to n - 1 in the order in which they joined.")
    void playersInTheirOrder() {
        int[] moneys = {30, 10, 40, 20};
        for (int n = 0; n <= 4; n++) {
            int count = n;
            Start some = game -> Games.addPlayers(game, Arrays.copyOf(moneys, count));
            for (int i = 0; i < n; i++) {
                int player = i;
                answers("money of " + i + " of " + n, moneys[i], some, game -> game.money(player));
            }
            refused("player n of " + n, INDEX, some, game -> game.money(count));
            refused("player -1 of " + n, INDEX, some, game -> game.money(-1));
        }
    }

    @Sentence(promise = 0, text = "A player has money and one ferry.")
    void moneyAndOneFerry() {
        for (int money : new int[] {0, 1, 98, 99}) {
            Start one = game -> game.addPlayer(money);
            answers("money", money, one, game -> game.money(0));
            answers("available money", money, one, game -> game.availableMoney(0));
            answers("ferry", false, one, game -> game.isFerryUsed(0));
        }
        Start second = Games.FULL.then(game -> {
            game.placeBid(0, 0, 5);
            game.playFerry(0, 0);
            game.placeBid(0, 3, 5);
        });
        refused("a second ferry", STATE, second, game -> game.playFerry(0, 3));
    }

    @Sentence(promise = 0, text = "The suit of the ferry is the index of the player.")
    void suitOfTheFerry() {
        for (int i = 0; i < 4; i++) {
            int player = i;
            for (int j = 0; j < 4; j++) {
                int suit = j;
                Start bid = Games.FULL.then(game -> {
                    game.setSuit(0, suit);
                    game.setSuit(4, suit);
                    game.placeBid(player, 0, 1);
                });
                if (player == suit) {
                    answers("player " + i + ", suit " + j, 0, bid, game -> game.playFerry(player, 0));
                } else {
                    refused("player " + i + ", suit " + j, UNSUPPORTED, bid, game -> game.playFerry(player, 0));
                }
            }
        }
    }

    @Sentence(promise = 0,
            text = "A ferry can be played once in the game; a ferry that has been played is used.")
    void ferryOnceInTheGame() {
        Start played = Games.THREE.then(game -> {
            game.placeBluff(0, 0, 5);
            game.playFerry(0, 0);
        });
        answers("used while it lies", true, played, game -> game.isFerryUsed(0));
        refused("again where it lies", STATE, played, game -> game.playFerry(0, 0));
        Start settled = played.then(game -> game.settle(0));
        answers("used after settling", true, settled, game -> game.isFerryUsed(0));
        Start again = settled.then(game -> game.placeBid(0, 0, 5));
        refused("again on the same site", STATE, again, game -> game.playFerry(0, 0));
        Start elsewhere = settled.then(game -> game.placeBid(0, 1, 5));
        refused("again on another site", STATE, elsewhere, game -> game.playFerry(0, 1));
        answers("the ferry of another", false, settled, game -> game.isFerryUsed(1));
        Start undone = played.then(BridgeAuction::undo);
        answers("not used when undone", false, undone, game -> game.isFerryUsed(0));
        answers("can be played when undone", 0, undone, game -> game.playFerry(0, 0));
    }

    // ---- sites

    @Sentence(promise = 0, text = "At most 12 bridge sites exist.")
    void twelveSites() {
        Start eleven = game -> Games.addSites(game, 11);
        answers("after 10", 10, game -> Games.addSites(game, 10), game -> game.addSite(6, 4, 1));
        answers("after 11", 11, eleven, game -> game.addSite(6, 4, 1));
        answers("count at 11", 11, eleven, BridgeAuction::siteCount);
        refused("after 12", STATE, Games.FULL, game -> game.addSite(6, 4, 1));
        answers("count at 12", 12, Games.FULL, BridgeAuction::siteCount);
        Start built = Games.FULL.then(game -> Games.build(game, 0, 11));
        refused("built sites count", STATE, built, game -> game.addSite(6, 4, 1));
    }

    @Sentence(promise = 0, text = "They have the indices 0 to n - 1 in the order in which they were added.")
    void sitesInTheirOrder() {
        for (int n = 0; n <= 12; n++) {
            int count = n;
            Start some = game -> Games.addSites(game, count);
            if (n > 0) {
                answers("last of " + n, Games.SITES[n - 1][2], some, game -> game.length(count - 1));
            }
            refused("site n of " + n, INDEX, some, game -> game.length(count));
            refused("site -1 of " + n, INDEX, some, game -> game.length(-1));
        }
        for (int i = 0; i < 12; i++) {
            int site = i;
            answers("lower island of " + i, Games.SITES[i][0], Games.FULL, game -> game.lowerIsland(site));
            answers("higher island of " + i, Games.SITES[i][1], Games.FULL, game -> game.higherIsland(site));
            answers("length of " + i, Games.SITES[i][2], Games.FULL, game -> game.length(site));
        }
    }

    @Sentence(promise = 0, text = "A site connects two different islands and has a length from 1 to 9.")
    void differentIslandsAndLengths() {
        for (int i = 0; i < 8; i++) {
            int island = i;
            refused("both " + i, ARGUMENT, Games.EMPTY, game -> game.addSite(island, island, 5));
        }
        for (int i = 1; i <= 9; i++) {
            int length = i;
            Start added = game -> game.addSite(6, 7, length);
            answers("length " + i, length, added, game -> game.length(0));
        }
        refused("length 0", ARGUMENT, Games.EMPTY, game -> game.addSite(6, 7, 0));
        refused("length 10", ARGUMENT, Games.EMPTY, game -> game.addSite(6, 7, 10));
    }

    @Sentence(promise = 0,
            text = "For each pair of islands there is at most one site, whatever the order of the two islands.")
    void oneSiteForAPair() {
        for (int i = 0; i < 8; i++) {
            for (int j = 0; j < 8; j++) {
                int first = i;
                int second = j;
                Start one = game -> game.addSite(first, second, 5);
                if (i != j) {
                    String pair = i + " and " + j;
                    refused(pair, UNSUPPORTED, one, game -> game.addSite(first, second, 6));
                    refused(pair + " turned", UNSUPPORTED, one, game -> game.addSite(second, first, 6));
                    int third = (Math.max(i, j) + 1) % 8 == Math.min(i, j) ? 3 : (Math.max(i, j) + 1) % 8;
                    answers(pair + ", another from the first", 1, one, game -> game.addSite(first, third, 5));
                    answers(pair + ", another to the second", 1, one, game -> game.addSite(third, second, 5));
                }
            }
        }
        Start built = Games.THREE.then(game -> Games.build(game, 0, 0));
        refused("a built site", UNSUPPORTED, built, game -> game.addSite(4, 0, 3));
    }

    @Sentence(promise = 0, text = "A site is either free or built.")
    void freeOrBuilt() {
        answers("free at first", false, Games.THREE, game -> game.isBuilt(0));
        refused("free without builder", ELEMENT, Games.THREE, game -> game.builder(0));
        answers("free takes bids", 1, Games.THREE, game -> game.placeBluff(0, 0, 1));
        Start built = Games.THREE.then(game -> Games.build(game, 0, 0));
        answers("built", true, built, game -> game.isBuilt(0));
        answers("built has a builder", 0, built, game -> game.builder(0));
        answers("built has no bids", 0, built, game -> game.bidCount(0));
        refused("built takes no bids", STATE, built, game -> game.placeBluff(0, 0, 1));
        answers("its neighbour is free", false, built, game -> game.isBuilt(1));
    }

    @Sentence(promise = 0, text = "A built site belongs to the player who built it.")
    void builtSiteBelongs() {
        Start built = Games.FULL.then(game -> {
            for (int player = 0; player < 4; player++) {
                Games.build(game, player, 3 - player);
            }
        });
        for (int i = 0; i < 4; i++) {
            int player = i;
            answers("builder of " + (3 - i), i, built, game -> game.builder(3 - player));
            answers("bridges of " + i, 1, built, game -> game.bridgeCount(player));
        }
    }

    // ---- the tide

    @Sentence(promise = 0, text = "The tide has a level from 0 to 9, initially 0.")
    void levelsOfTheTide() {
        answers("initially", 0, Games.EMPTY, BridgeAuction::tide);
        BridgeAuction game = new BridgeAuction();
        for (int i = 0; i <= 9; i++) {
            int level = i;
            due("to " + i, Math.max(i - 1, 0), () -> game.setTide(level));
            due("at " + i, i, game::tide);
        }
        due("from 9 to 0", 9, () -> game.setTide(0));
        refused("level -1", ARGUMENT, Games.BUSY, there -> there.setTide(-1));
        refused("level 10", ARGUMENT, Games.BUSY, there -> there.setTide(10));
    }

    @Sentence(promise = 0, text = "The building cost of a site is its length plus the tide level.")
    void lengthPlusTide() {
        int[][] due = {{1, 0, 1}, {9, 0, 9}, {1, 9, 10}, {9, 9, 18}, {4, 3, 7}};
        for (int[] row : due) {
            Start tide = game -> {
                game.addSite(0, 1, row[0]);
                game.setTide(row[1]);
            };
            answers("length " + row[0] + ", tide " + row[1], row[2], tide, game -> game.buildingCost(0));
        }
    }

    // ---- bids

    @Sentence(promise = 0, text = "On a free site every player has at most one bid.")
    void oneBidOfAPlayer() {
        BridgeAuction game = Games.FULL.make();
        for (int i = 0; i < 4; i++) {
            int player = i;
            due("bid of " + i, i + 1, () -> game.placeBluff(player, 0, 10 + player));
        }
        due("bluff for bluff", 4, () -> game.placeBluff(0, 0, 20));
        due("bid for bluff", 69, () -> game.placeBid(1, 0, 30));
        due("still four", 4, () -> game.bidCount(0));
        due("bluff for bid", 4, () -> game.placeBluff(1, 0, 40));
        due("withdrawn at once", 40, () -> game.withdrawBid(1, 0));
        due("none is left", ELEMENT, () -> game.bidAmount(1, 0));
        due("the others' are left", 3, () -> game.bidCount(0));
    }

    @Sentence(promise = 0, text = "A bid has an amount from 1 to 99 and is either genuine or a bluff.")
    void amountsOfBids() {
        for (int right : new int[] {1, 2, 98, 99}) {
            answers("bid of " + right, 99 - right, Games.FULL, game -> game.placeBid(0, 0, right));
            answers("bluff of " + right, 1, Games.FULL, game -> game.placeBluff(0, 0, right));
            Start bid = Games.FULL.then(game -> game.placeBid(0, 0, right));
            Start bluff = Games.FULL.then(game -> game.placeBluff(0, 0, right));
            answers("amount of the bid", right, bid, game -> game.bidAmount(0, 0));
            answers("amount of the bluff", right, bluff, game -> game.bidAmount(0, 0));
            answers("the bid is genuine", false, bid, game -> game.isBluff(0, 0));
            answers("the bluff is one", true, bluff, game -> game.isBluff(0, 0));
        }
        for (int wrong : new int[] {-1, 0, 100, 101, Integer.MIN_VALUE, Integer.MAX_VALUE}) {
            refused("bid of " + wrong, ARGUMENT, Games.FULL, game -> game.placeBid(0, 0, wrong));
            refused("bluff of " + wrong, ARGUMENT, Games.FULL, game -> game.placeBluff(0, 0, wrong));
        }
    }

    @Sentence(promise = 0, text = "A genuine bid reserves its amount of the money of the player until it is removed; "
            + "a bluff reserves nothing, and its amount may exceed the money of the player.")
    void reservedMoney() {
        Start bid = Games.THREE.then(game -> game.placeBid(0, 0, 20));
        answers("reserved", 30, bid, game -> game.availableMoney(0));
        answers("not paid", 50, bid, game -> game.money(0));
        Start withdrawn = bid.then(game -> game.withdrawBid(0, 0));
        answers("after withdrawing", 50, withdrawn, game -> game.availableMoney(0));
        Start bluffed = bid.then(game -> game.placeBluff(0, 0, 21));
        answers("after a bluff for it", 50, bluffed, game -> game.availableMoney(0));
        Start raised = bid.then(game -> game.placeBid(0, 0, 21));
        answers("after a bid for it", 29, raised, game -> game.availableMoney(0));
        Start outbid = bid.then(game -> game.placeBid(1, 0, 21));
        answers("while outbid", 30, outbid, game -> game.availableMoney(0));
        answers("when lost", 50, outbid.then(game -> game.settle(0)), game -> game.availableMoney(0));
        answers("when won", 30, bid.then(game -> game.settle(0)), game -> game.money(0));
        Start bluff = Games.THREE.then(game -> game.placeBluff(2, 0, 99));
        answers("a bluff of 99 with 4", 99, bluff, game -> game.bidAmount(2, 0));
        answers("reserves nothing", 4, bluff, game -> game.availableMoney(2));
        Start none = game -> {
            game.addPlayer(0);
            game.addSite(0, 1, 1);
        };
        answers("a bluff without money", 1, none, game -> game.placeBluff(0, 0, 1));
        refused("a bid without money", UNSUPPORTED, none, game -> game.placeBid(0, 0, 1));
    }

    @Sentence(promise = 0, text = "The available money of a player is the money minus the amounts of the player's "
            + "genuine bids on all sites.")
    void availableMoneyOverAllSites() {
        BridgeAuction game = Games.FULL.make();
        for (int i = 0; i < 12; i++) {
            int site = i;
            due("with bids on " + i + " more", 99 - 7 * (i + 1), () -> game.placeBid(1, site, 7));
            game.placeBluff(2, site, 8);
        }
        due("with all that was left", 0, () -> game.placeBid(1, 0, 22));
        due("money", 99, () -> game.money(1));
        due("of one who bluffs", 99, () -> game.availableMoney(2));
        due("of another", 99, () -> game.availableMoney(0));
    }

    @Sentence(promise = 0, text = "A new bid must be higher than the highest amount on the site, including an earlier "
            + "bid of the same player on this site, and it replaces this earlier bid.")
    void higherThanTheHighest() {
        Start bids = Games.FULL.then(game -> {
            game.placeBid(0, 0, 10);
            game.placeBid(1, 0, 20);
        });
        Start bluffs = Games.FULL.then(game -> {
            game.placeBluff(0, 0, 10);
            game.placeBluff(1, 0, 20);
        });
        for (Start start : new Start[] {bids, bluffs}) {
            for (int i = 0; i < 3; i++) {
                int player = i;
                for (int low : new int[] {1, 9, 10, 11, 19, 20}) {
                    refused("bid of " + low, UNSUPPORTED, start, game -> game.placeBid(player, 0, low));
                    refused("bluff of " + low, UNSUPPORTED, start, game -> game.placeBluff(player, 0, low));
                }
                answers("bid of 21", 78, start, game -> game.placeBid(player, 0, 21));
                answers("bluff of 21", i < 2 ? 2 : 3, start, game -> game.placeBluff(player, 0, 21));
                Start raised = start.then(game -> game.placeBluff(player, 0, 21));
                answers("new amount", 21, raised, game -> game.bidAmount(player, 0));
            }
            answers("another site", 98, start, game -> game.placeBid(2, 1, 1));
        }
        Start ferry = bids.then(game -> game.playFerry(0, 0));
        refused("below the highest beside a ferry", UNSUPPORTED, ferry, game -> game.placeBid(0, 0, 20));
        Start highest = Games.FULL.then(game -> {
            game.placeBid(0, 0, 10);
            game.playFerry(0, 0);
        });
        for (int low : new int[] {1, 9, 10}) {
            refused("the ferry's own bid lowered to " + low, UNSUPPORTED, highest, game -> game.placeBid(0, 0, low));
            refused("or a bluff of " + low, UNSUPPORTED, highest, game -> game.placeBluff(0, 0, low));
            refused("another's bid of " + low, UNSUPPORTED, highest, game -> game.placeBid(1, 0, low));
        }
        answers("the ferry's own bid raised", 88, highest, game -> game.placeBid(0, 0, 11));
        Start withdrawn = bids.then(game -> game.withdrawBid(1, 0));
        answers("above the highest that is left", 88, withdrawn, game -> game.placeBid(2, 0, 11));
    }

    @Sentence(promise = 0, text = "Whether the player can afford a new genuine bid is decided as if the earlier bid of "
            + "this player on this site had been removed.")
    void affordedWithoutTheEarlierBid() {
        Start bid = Games.THREE.then(game -> game.placeBid(0, 0, 49));
        answers("all the money", 0, bid, game -> game.placeBid(0, 0, 50));
        refused("one more", UNSUPPORTED, bid, game -> game.placeBid(0, 0, 51));
        Start two = Games.THREE.then(game -> {
            game.placeBid(0, 0, 10);
            game.placeBid(0, 1, 15);
        });
        answers("all that other sites leave", 0, two, game -> game.placeBid(0, 0, 35));
        refused("one more than they leave", UNSUPPORTED, two, game -> game.placeBid(0, 0, 36));
        answers("all that the first leaves", 0, two, game -> game.placeBid(0, 1, 40));
        refused("one more than it leaves", UNSUPPORTED, two, game -> game.placeBid(0, 1, 41));
        Start bluff = Games.THREE.then(game -> game.placeBluff(2, 0, 3));
        answers("a bluff frees nothing", 0, bluff, game -> game.placeBid(2, 0, 4));
        refused("nor pays one more", UNSUPPORTED, bluff, game -> game.placeBid(2, 0, 5));
    }

    // ---- ferries

    @Sentence(promise = 0, text = "A player who has a bid on a free site can play the ferry on this site if the suit "
            + "of at least one of the two islands is the suit of the ferry.")
    void suitOfOneIsland() {
        int[][] fits = {{2, 3}, {3, 2}, {2, 2}};
        for (int[] suits : fits) {
            answers("suits " + suits[0] + " and " + suits[1], 0, suited(suits), game -> game.playFerry(2, 0));
        }
        for (int[] suits : new int[][] {{1, 3}, {3, 1}, {0, 0}}) {
            refused("suits " + suits[0] + " and " + suits[1], UNSUPPORTED, suited(suits),
                    game -> game.playFerry(2, 0));
        }
        Start none = Games.THREE.then(game -> game.placeBid(1, 0, 5));
        refused("without a bid", ELEMENT, none, game -> game.playFerry(0, 0));
        Start built = Games.THREE.then(game -> Games.build(game, 0, 0));
        refused("on a built site", ELEMENT, built, game -> game.playFerry(0, 0));
    }

    private static Start suited(int[] suits) {
        return Games.THREE.then(game -> {
            game.setSuit(0, suits[0]);
            game.setSuit(4, suits[1]);
            game.placeBluff(2, 0, 5);
        });
    }

    @Sentence(promise = 0, text = "At most one ferry lies on a site.")
    void oneFerryOnASite() {
        Start one = Games.THREE.then(game -> {
            game.setSuit(4, 1);
            game.placeBid(0, 0, 5);
            game.placeBid(1, 0, 6);
            game.playFerry(0, 0);
        });
        refused("a second one", STATE, one, game -> game.playFerry(1, 0));
        answers("the first lies there", 0, one, game -> game.ferryOwner(0));
        answers("the second is not used", false, one, game -> game.isFerryUsed(1));
        Start other = one.then(game -> game.placeBid(1, 1, 6));
        answers("the second on another site", 0, other, game -> game.playFerry(1, 1));
    }

    @Sentence(promise = 0, text = "A ferry stays on the site when the player replaces the bid or when the suit of an "
            + "island changes.")
    void ferryStays() {
        Start ferry = Games.THREE.then(game -> {
            game.placeBid(0, 0, 5);
            game.playFerry(0, 0);
        });
        Start[] changes = {game -> game.placeBid(0, 0, 6), game -> game.placeBluff(0, 0, 6),
            game -> game.setSuit(0, 3), game -> game.setSuit(4, 3),
            game -> {
                game.setSuit(0, 3);
                game.setSuit(4, 3);
                game.placeBid(1, 0, 9);
            }};
        for (int i = 0; i < changes.length; i++) {
            Start changed = ferry.then(changes[i]);
            answers("owner after change " + i, 0, changed, game -> game.ferryOwner(0));
            answers("winner after change " + i, 0, changed, game -> game.winningBidder(0));
            refused("withdrawing after change " + i, STATE, changed, game -> game.withdrawBid(0, 0));
        }
    }

    @Sentence(promise = 0,
            text = "A player whose ferry lies on a site cannot withdraw the bid on this site.")
    void bidUnderAFerry() {
        Start ferry = Games.THREE.then(game -> {
            game.placeBid(0, 0, 5);
            game.placeBid(1, 0, 6);
            game.placeBid(0, 1, 7);
            game.playFerry(0, 0);
        });
        refused("under the ferry", STATE, ferry, game -> game.withdrawBid(0, 0));
        answers("of another player", 6, ferry, game -> game.withdrawBid(1, 0));
        answers("on another site", 7, ferry, game -> game.withdrawBid(0, 1));
    }

    // ---- settling

    @Sentence(promise = 0, text = "The winning bid is the bid of the player whose ferry lies on the site, or the bid "
            + "with the highest amount if no ferry lies on it.")
    void winningBid() {
        for (int i = 0; i < 4; i++) {
            int player = i;
            Start four = Games.FULL.then(game -> {
                game.setSuit(0, player);
                for (int step = 1; step <= 4; step++) {
                    game.placeBid((player + step) % 4, 0, 10 * step);
                }
            });
            answers("highest", i, four, game -> game.winningBidder(0));
            Start lowest = four.then(game -> {
                game.setSuit(0, (player + 1) % 4);
                game.playFerry((player + 1) % 4, 0);
            });
            answers("lowest with a ferry", (i + 1) % 4, lowest, game -> game.winningBidder(0));
            answers("highest with a ferry", i, four.then(game -> game.playFerry(player, 0)),
                    game -> game.winningBidder(0));
            answers("builder", (i + 1) % 4, lowest.then(game -> game.settle(0)), game -> game.builder(0));
            answers("who pays", 89, lowest.then(game -> game.settle(0)), game -> game.money((player + 1) % 4));
        }
    }

    @Sentence(promise = 0, text = "All bids on the site and the ferry on it are removed.")
    void bidsAndFerryAreRemoved() {
        Start[] lasts = {game -> game.placeBid(3, 0, 30), game -> game.placeBid(3, 0, 2),
            game -> game.placeBluff(3, 0, 30)};
        for (int i = 0; i < lasts.length; i++) {
            Start last = lasts[i];
            Start settled = Games.FULL.then(game -> {
                game.setSuit(0, 3);
                last.on(game);
                game.placeBluff(2, 0, 31);
                game.placeBid(1, 0, 32);
                game.placeBid(0, 0, 33);
                game.placeBid(0, 1, 5);
                game.playFerry(3, 0);
                game.settle(0);
            });
            answers("no bids", 0, settled, game -> game.bidCount(0));
            for (int j = 0; j < 4; j++) {
                int player = j;
                refused("no bid of " + j, ELEMENT, settled, game -> game.bidAmount(player, 0));
            }
            refused("no ferry", ELEMENT, settled, game -> game.ferryOwner(0));
            refused("no winner", ELEMENT, settled, game -> game.winningBidder(0));
            answers("bids elsewhere stay", 5, settled, game -> game.bidAmount(0, 1));
            answers("nothing is reserved", 99, settled, game -> game.availableMoney(1));
        }
    }

    @Sentence(promise = 0, text = "If the winning bid is a bluff, its player pays a penalty of 5 to the bank, or all "
            + "available money if this is less than 5, and the site stays free; genuine bids on other sites still "
            + "reserve their amounts.")
    void penaltyOfABluff() {
        for (int i = 0; i <= 7; i++) {
            int available = i;
            int penalty = Math.min(i, 5);
            Start poor = game -> {
                game.addPlayer(available);
                game.addSite(0, 1, 1);
                game.placeBluff(0, 0, 1 + 49 * (available % 3));
            };
            penalized("with " + i, poor, 0, penalty, available - penalty);
            Start reserved = game -> {
                game.addPlayer(20 + available);
                game.addSite(0, 1, 1);
                game.addSite(0, 2, 1);
                game.addSite(0, 3, 1);
                game.placeBid(0, 1, 15);
                game.placeBid(0, 2, 5);
                game.placeBluff(0, 0, 99);
            };
            penalized("with " + i + " and 20 reserved", reserved, 20, penalty, 20 + available - penalty);
        }
    }

    private void penalized(String what, Start bluff, int reserved, int penalty, int money) {
        answers("builds nothing " + what, false, bluff, game -> game.settle(0));
        Start settled = bluff.then(game -> game.settle(0));
        answers("bank " + what, penalty, settled, BridgeAuction::bankMoney);
        answers("money " + what, money, settled, game -> game.money(0));
        answers("available " + what, money - reserved, settled, game -> game.availableMoney(0));
        answers("free " + what, false, settled, game -> game.isBuilt(0));
        answers("consistent " + what, true, settled, BridgeAuction::isConsistent);
        if (reserved > 0) {
            answers("bids elsewhere " + what, 15, settled, game -> game.bidAmount(0, 1));
        }
    }

    @Sentence(promise = 0, text = "If the winning bid is genuine, its player pays its amount to the bank; then the "
            + "site is built by this player if the amount is at least the building cost, and otherwise the site stays "
            + "free.")
    void payOfAGenuineBid() {
        int[][] costs = {{1, 1}, {9, 0}, {1, 9}, {9, 9}};
        for (int[] cost : costs) {
            for (int i = -1; i <= 1; i++) {
                int amount = cost[0] + cost[1] + i;
                Start bid = game -> {
                    Games.addPlayers(game, 99, 99);
                    game.addSite(0, 1, cost[0]);
                    game.setTide(cost[1]);
                    game.placeBid(1, 0, amount);
                };
                String what = amount + " for " + cost[0] + " at tide " + cost[1];
                answers("builds: " + what, i >= 0, bid, game -> game.settle(0));
                Start settled = bid.then(game -> game.settle(0));
                answers("built: " + what, i >= 0, settled, game -> game.isBuilt(0));
                answers("bank: " + what, amount, settled, BridgeAuction::bankMoney);
                answers("money: " + what, 99 - amount, settled, game -> game.money(1));
                answers("money of the other: " + what, 99, settled, game -> game.money(0));
                Object builder = i >= 0 ? 1 : ELEMENT;
                answers("builder: " + what, builder, settled, game -> game.builder(0));
            }
        }
        Start all = game -> {
            game.addPlayer(1);
            game.addSite(0, 1, 1);
            game.placeBid(0, 0, 1);
        };
        answers("the last coin builds", true, all, game -> game.settle(0));
        answers("and is paid", 0, all.then(game -> game.settle(0)), game -> game.money(0));
    }

    // ---- the graph and the score

    @Sentence(promise = 0, text = "The built sites are the edges of an undirected graph whose vertices are the "
            + "islands; the length of a site is the length of the edge.")
    void builtSitesAreEdges() {
        refused("a free site is none", ELEMENT, Games.FULL, game -> game.distance(0, 4));
        Start bid = Games.FULL.then(game -> game.placeBid(0, 0, 50));
        refused("nor with bids", ELEMENT, bid, game -> game.distance(0, 4));
        for (int i = 0; i < 12; i++) {
            int site = i;
            int lower = Games.SITES[i][0];
            int higher = Games.SITES[i][1];
            Start built = Games.FULL.then(game -> {
                Games.build(game, 0, site);
                game.setTide(9);
            });
            answers("forth over " + i, Games.SITES[i][2], built, game -> game.distance(lower, higher));
            answers("back over " + i, Games.SITES[i][2], built, game -> game.distance(higher, lower));
            answers("joined by " + i, true, built, game -> game.isConnected(higher, lower));
            answers("parts with " + i, 7, built, BridgeAuction::componentCount);
            answers("forest of " + i, Games.SITES[i][2], built, BridgeAuction::forestLength);
        }
        Start undone = bid.then(game -> {
            game.settle(0);
            game.undo();
        });
        refused("none when undone", ELEMENT, undone, game -> game.distance(0, 4));
    }

    @Sentence(promise = 0, text = "A minimum spanning forest consists of edges with the smallest total length that "
            + "connect the islands of each connected component.")
    void smallestForest() {
        answers("no edges", 0, Games.FULL, BridgeAuction::forestLength);
        int[][] edges = {{0, 1, 3}, {1, 2, 9}, {0, 2, 8}, {4, 5, 2}, {5, 6, 2}, {4, 6, 2}};
        int[] due = {3, 12, 11, 13, 15, 15};
        BridgeAuction game = new BridgeAuction();
        game.addPlayer(99);
        for (int i = 0; i < edges.length; i++) {
            Games.bridge(game, 0, edges[i][0], edges[i][1], edges[i][2]);
            due("forest of " + (i + 1) + " edges", due[i], game::forestLength);
            due("the same by Prim", due[i], game::forestLengthByPrim);
        }
    }

    @Sentence(promise = 0, text = "The score of a player is the sum of the lengths of the sites that the player has "
            + "built, plus 3 for each of these sites whose two islands have the same suit now.")
    void scoreOfAPlayer() {
        answers("no sites", 0, Games.FULL, game -> game.score(0));
        Start bids = Games.FULL.then(game -> game.placeBid(0, 0, 50));
        answers("bids count nothing", 0, bids, game -> game.score(0));
        Start one = bids.then(game -> game.settle(0));
        answers("length 3 and equal suits", 6, one, game -> game.score(0));
        answers("not for others", 0, one, game -> game.score(1));
        answers("the tide counts nothing", 6, one.then(game -> game.setTide(9)), game -> game.score(0));
        Start changed = one.then(game -> game.setSuit(4, 1));
        answers("suits differ now", 3, changed, game -> game.score(0));
        answers("suits are equal again", 6, changed.then(game -> game.setSuit(0, 1)), game -> game.score(0));
        Start two = one.then(game -> Games.build(game, 0, 1));
        answers("two sites, one with equal suits", 15, two, game -> game.score(0));
        answers("two with equal suits", 18, two.then(game -> game.setSuit(5, 0)), game -> game.score(0));
        Start three = two.then(game -> Games.build(game, 3, 2));
        answers("the third of another", 15, three, game -> game.score(0));
        answers("counts for the other", 5, three, game -> game.score(3));
        Start twelve = Games.FULL.then(game -> {
            for (int site = 0; site < 12; site++) {
                Games.build(game, 2, site);
            }
            for (int island = 0; island < 8; island++) {
                game.setSuit(island, 3);
            }
        });
        answers("all twelve with equal suits", 59 + 36, twelve, game -> game.score(2));
        answers("all bridges of one", 12, twelve, game -> game.bridgeCount(2));
    }
}
