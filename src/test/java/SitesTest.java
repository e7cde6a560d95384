/** Promises 20 to 32: questions about sites and what lies on them. */
public final class SitesTest extends Suite {
    /** Site 0: all four bid, the second highest with a ferry; site 1: a bluff of 1; site 2: built; site 3: no bids. */
    private static final Start BIDS = Games.FULL.then(game -> {
        game.placeBluff(2, 0, 1);
        game.placeBid(0, 0, 50);
        game.placeBid(3, 0, 98);
        game.placeBluff(1, 0, 99);
        game.setSuit(4, 3);
        game.playFerry(3, 0);
        game.placeBluff(1, 1, 1);
        Games.build(game, 2, 2);
    });

    public static void main(String[] arguments) {
        new SitesTest().run();
    }

    // ---- promises 20 to 23: what a site is

    @Sentence(promise = 20, text = "Returns the island of a site with the lower index.")
    @Sentence(promise = 20, text = "Returns the index of the island.")
    void lowerIsland() {
        answers("lowest", 0, game -> game.addSite(0, 7, 1), game -> game.lowerIsland(0));
        answers("lowest, turned", 0, game -> game.addSite(7, 0, 1), game -> game.lowerIsland(0));
        answers("highest", 6, game -> game.addSite(6, 7, 1), game -> game.lowerIsland(0));
        answers("highest, turned", 6, game -> game.addSite(7, 6, 1), game -> game.lowerIsland(0));
        answers("of the last site", 4, Games.FULL, game -> game.lowerIsland(11));
        answers("of a bridge", 1, BIDS, game -> game.lowerIsland(2));
    }

    @Sentence(promise = 20, text = "Throws `IndexOutOfBoundsException` if there is no such site")
    void lowerIslandOfNoSite() {
        noSuchSite(BridgeAuction::lowerIsland);
    }

    @Sentence(promise = 21, text = "Returns the island of a site with the higher index.")
    @Sentence(promise = 21, text = "Returns the index of the island.")
    void higherIsland() {
        answers("lowest", 1, game -> game.addSite(0, 1, 1), game -> game.higherIsland(0));
        answers("lowest, turned", 1, game -> game.addSite(1, 0, 1), game -> game.higherIsland(0));
        answers("highest", 7, game -> game.addSite(0, 7, 1), game -> game.higherIsland(0));
        answers("highest, turned", 7, game -> game.addSite(7, 0, 1), game -> game.higherIsland(0));
        answers("of the last site", 7, Games.FULL, game -> game.higherIsland(11));
        answers("of a bridge", 5, BIDS, game -> game.higherIsland(2));
    }

    @Sentence(promise = 21, text = "Throws `IndexOutOfBoundsException` if there is no such site")
    void higherIslandOfNoSite() {
        noSuchSite(BridgeAuction::higherIsland);
    }

    @Sentence(promise = 22, text = "Returns the length of a site.")
    @Sentence(promise = 22, text = "Returns the length.")
    void length() {
        for (int i = 1; i <= 9; i++) {
            int length = i;
            answers("length " + i, i, game -> game.addSite(3, 2, length), game -> game.length(0));
        }
        answers("at tide 9", 9, Games.FULL.then(game -> game.setTide(9)), game -> game.length(11));
        answers("of a bridge", 2, BIDS, game -> game.length(2));
    }

    @Sentence(promise = 22, text = "Throws `IndexOutOfBoundsException` if there is no such site")
    void lengthOfNoSite() {
        noSuchSite(BridgeAuction::length);
    }

    @Sentence(promise = 23, text = "Returns the building cost of a site, whether it is free or built.")
    @Sentence(promise = 23, text = "Returns the building cost.")
    void buildingCost() {
        for (int i = 0; i <= 9; i++) {
            int level = i;
            Start tide = BIDS.then(game -> game.setTide(level));
            answers("free at " + i, 3 + i, tide, game -> game.buildingCost(0));
            answers("built at " + i, 2 + i, tide, game -> game.buildingCost(2));
            answers("longest at " + i, 9 + i, tide, game -> game.buildingCost(11));
            answers("shortest at " + i, 1 + i, tide, game -> game.buildingCost(3));
        }
    }

    @Sentence(promise = 23, text = "Throws `IndexOutOfBoundsException` if there is no such site")
    void buildingCostOfNoSite() {
        noSuchSite(BridgeAuction::buildingCost);
    }

    // ---- promises 24 and 25: bridges

    @Sentence(promise = 24, text = "Returns whether a site is built.")
    @Sentence(promise = 24, text = "Returns true if it is built.")
    void isBuilt() {
        answers("no bids", false, BIDS, game -> game.isBuilt(3));
        answers("bids", false, BIDS, game -> game.isBuilt(0));
        answers("built", true, BIDS, game -> game.isBuilt(2));
        answers("settled as a bluff", false, BIDS.then(game -> game.settle(1)), game -> game.isBuilt(1));
        answers("settled for the ferry", true, BIDS.then(game -> game.settle(0)), game -> game.isBuilt(0));
        answers("undone", false, BIDS.then(BridgeAuction::undo), game -> game.isBuilt(2));
    }

    @Sentence(promise = 24, text = "Throws `IndexOutOfBoundsException` if there is no such site")
    void isBuiltOfNoSite() {
        noSuchSite(BridgeAuction::isBuilt);
    }

    @Sentence(promise = 25, text = "Returns who has built a site.")
    @Sentence(promise = 25, text = "Returns the index of the player.")
    void builder() {
        for (int i = 0; i < 4; i++) {
            int player = i;
            Start built = Games.FULL.then(game -> Games.build(game, player, 11));
            answers("player " + i, i, built, game -> game.builder(11));
        }
        answers("by ferry", 3, BIDS.then(game -> game.settle(0)), game -> game.builder(0));
    }

    @Sentence(promise = 25, text = "Throws `IndexOutOfBoundsException` if there is no such site")
    void builderOfNoSite() {
        noSuchSite(BridgeAuction::builder);
    }

    @Sentence(promise = 25, text = "Throws `NoSuchElementException` if the site is free")
    void builderOfAFreeSite() {
        refused("no bids", ELEMENT, BIDS, game -> game.builder(3));
        refused("bids and a ferry", ELEMENT, BIDS, game -> game.builder(0));
        refused("settled as a bluff", ELEMENT, BIDS.then(game -> game.settle(1)), game -> game.builder(1));
        refused("undone", ELEMENT, BIDS.then(BridgeAuction::undo), game -> game.builder(2));
    }

    // ---- promises 26 to 28: bids

    @Sentence(promise = 26, text = "Returns the number of bids on a site.")
    @Sentence(promise = 26, text = "Returns the number of bids.")
    void bidCount() {
        BridgeAuction game = Games.FULL.make();
        for (int i = 0; i < 4; i++) {
            int count = i;
            due("before " + i, count, () -> game.bidCount(11));
            game.placeBid(i, 11, i + 1);
            due("elsewhere", 0, () -> game.bidCount(10));
        }
        due("four", 4, () -> game.bidCount(11));
        game.placeBluff(0, 11, 5);
        due("replaced", 4, () -> game.bidCount(11));
        game.withdrawBid(3, 11);
        due("withdrawn", 3, () -> game.bidCount(11));
        game.settle(11);
        due("settled", 0, () -> game.bidCount(11));
        answers("bids and bluffs", 4, BIDS, there -> there.bidCount(0));
        answers("a bluff of 1", 1, BIDS, there -> there.bidCount(1));
        answers("built", 0, BIDS, there -> there.bidCount(2));
    }

    @Sentence(promise = 26, text = "Throws `IndexOutOfBoundsException` if there is no such site")
    void bidCountOfNoSite() {
        noSuchSite(BridgeAuction::bidCount);
    }

    @Sentence(promise = 27, text = "Returns the amount of the bid of a player on a site.")
    @Sentence(promise = 27, text = "Returns the amount.")
    void bidAmount() {
        int[] amounts = {50, 99, 1, 98};
        for (int i = 0; i < 4; i++) {
            int player = i;
            answers("of " + i, amounts[i], BIDS, game -> game.bidAmount(player, 0));
        }
        answers("replaced", 99, Games.THREE.then(game -> {
            game.placeBid(0, 2, 1);
            game.placeBluff(0, 2, 99);
        }), game -> game.bidAmount(0, 2));
    }

    @Sentence(promise = 27, text = "Throws `IndexOutOfBoundsException` if there is no such player or no such site")
    void bidAmountByNoPlayerOrSite() {
        noSuchPlayer((game, player) -> game.bidAmount(player, 0));
        noSuchSite((game, site) -> game.bidAmount(0, site));
        refused("neither", INDEX, BIDS, game -> game.bidAmount(4, 12));
    }

    @Sentence(promise = 27, text = "Throws `NoSuchElementException` if the player has no bid on the site")
    void amountOfNoBid() {
        refused("no bids", ELEMENT, BIDS, game -> game.bidAmount(0, 3));
        refused("another's bid", ELEMENT, BIDS, game -> game.bidAmount(0, 1));
        refused("built", ELEMENT, BIDS, game -> game.bidAmount(2, 2));
        refused("withdrawn", ELEMENT, BIDS.then(game -> game.withdrawBid(1, 0)), game -> game.bidAmount(1, 0));
    }

    @Sentence(promise = 28, text = "Returns whether the bid of a player on a site is a bluff.")
    @Sentence(promise = 28, text = "Returns true if it is a bluff.")
    void isBluff() {
        boolean[] bluffs = {false, true, true, false};
        for (int i = 0; i < 4; i++) {
            int player = i;
            answers("of " + i, bluffs[i], BIDS, game -> game.isBluff(player, 0));
        }
        for (int amount : new int[] {1, 99}) {
            Start bid = Games.FULL.then(game -> game.placeBid(0, 5, amount));
            answers("bid of " + amount, false, bid, game -> game.isBluff(0, 5));
            Start bluff = Games.FULL.then(game -> game.placeBluff(0, 5, amount));
            answers("bluff of " + amount, true, bluff, game -> game.isBluff(0, 5));
        }
        Start bid = Games.FULL.then(game -> {
            game.placeBluff(0, 5, 1);
            game.placeBid(0, 5, 2);
        });
        answers("a bid for a bluff", false, bid, game -> game.isBluff(0, 5));
        answers("a bluff for a bid", true, bid.then(game -> game.placeBluff(0, 5, 3)), game -> game.isBluff(0, 5));
    }

    @Sentence(promise = 28, text = "Throws `IndexOutOfBoundsException` if there is no such player or no such site")
    void isBluffByNoPlayerOrSite() {
        noSuchPlayer((game, player) -> game.isBluff(player, 0));
        noSuchSite((game, site) -> game.isBluff(0, site));
        refused("neither", INDEX, BIDS, game -> game.isBluff(4, 12));
    }

    @Sentence(promise = 28, text = "Throws `NoSuchElementException` if the player has no bid on the site")
    void isBluffOfNoBid() {
        refused("no bids", ELEMENT, BIDS, game -> game.isBluff(0, 3));
        refused("another's bluff", ELEMENT, BIDS, game -> game.isBluff(0, 1));
        refused("built", ELEMENT, BIDS, game -> game.isBluff(2, 2));
        refused("withdrawn", ELEMENT, BIDS.then(game -> game.withdrawBid(1, 0)), game -> game.isBluff(1, 0));
    }

    // ---- promises 29 to 31: ferries and winners

    @Sentence(promise = 29, text = "Returns the player whose ferry lies on a site.")
    @Sentence(promise = 29, text = "Returns the index of the player.")
    void ferryOwner() {
        for (int i = 0; i < 4; i++) {
            int player = i;
            Start ferry = Games.FULL.then(game -> {
                game.setSuit(7, player);
                game.placeBid(player, 11, 1);
                game.placeBid((player + 1) % 4, 11, 2);
                game.playFerry(player, 11);
            });
            answers("player " + i, i, ferry, game -> game.ferryOwner(11));
        }
    }

    @Sentence(promise = 29, text = "Throws `IndexOutOfBoundsException` if there is no such site")
    void ferryOwnerOfNoSite() {
        noSuchSite(BridgeAuction::ferryOwner);
    }

    @Sentence(promise = 29, text = "Throws `NoSuchElementException` if no ferry lies on the site")
    void ownerOfNoFerry() {
        refused("no bids", ELEMENT, BIDS, game -> game.ferryOwner(3));
        refused("a bid without a ferry", ELEMENT, BIDS, game -> game.ferryOwner(1));
        refused("built", ELEMENT, BIDS, game -> game.ferryOwner(2));
        refused("settled", ELEMENT, BIDS.then(game -> game.settle(0)), game -> game.ferryOwner(0));
        Start free = BIDS.then(game -> {
            game.placeBluff(1, 3, 98);
            game.playFerry(1, 3);
            game.settle(3);
        });
        refused("settled but free", ELEMENT, free, game -> game.ferryOwner(3));
        Start undone = Games.THREE.then(game -> {
            game.placeBid(0, 0, 1);
            game.playFerry(0, 0);
            game.undo();
        });
        refused("undone", ELEMENT, undone, game -> game.ferryOwner(0));
    }

    @Sentence(promise = 30, text = "Returns the player with the winning bid on a site.")
    @Sentence(promise = 30, text = "Returns the index of the player.")
    void winningBidder() {
        answers("ferry", 3, BIDS, game -> game.winningBidder(0));
        answers("a bluff of 1", 1, BIDS, game -> game.winningBidder(1));
        Start game = Games.FULL;
        int[] order = {2, 0, 3, 1, 2};
        for (int i = 0; i < order.length; i++) {
            int player = order[i];
            int amount = i + 1;
            Start more = game;
            Start bid = more.then(there -> there.placeBid(player, 11, amount));
            Start bluff = more.then(there -> there.placeBluff(player, 11, amount));
            answers("bid " + i, player, bid, there -> there.winningBidder(11));
            answers("bluff " + i, player, bluff, there -> there.winningBidder(11));
            game = i % 2 == 0 ? bid : bluff;
        }
        answers("next when withdrawn", 1, game.then(there -> there.withdrawBid(2, 11)),
                there -> there.winningBidder(11));
    }

    @Sentence(promise = 30, text = "Throws `IndexOutOfBoundsException` if there is no such site")
    void winningBidderOfNoSite() {
        noSuchSite(BridgeAuction::winningBidder);
    }

    @Sentence(promise = 30, text = "Throws `NoSuchElementException` if there are no bids on the site")
    void winnerWithoutBids() {
        refused("no bids", ELEMENT, BIDS, game -> game.winningBidder(3));
        refused("built", ELEMENT, BIDS, game -> game.winningBidder(2));
        refused("settled but free", ELEMENT, BIDS.then(game -> game.settle(1)), game -> game.winningBidder(1));
        refused("withdrawn", ELEMENT, BIDS.then(game -> game.withdrawBid(1, 1)), game -> game.winningBidder(1));
    }

    @Sentence(promise = 31, text = "Predicts whether settling a site now would build it.")
    @Sentence(promise = 31, text = "Returns true if the site would be built.")
    void wouldBuild() {
        for (int i = -1; i <= 1; i++) {
            int amount = 12 + i;
            Start bid = Games.FULL.then(game -> {
                game.setTide(9);
                game.placeBid(0, 0, amount);
            });
            predicted("a bid of " + amount + " for 12", i >= 0, bid);
            predicted("a bluff above it", false, bid.then(game -> game.placeBluff(1, 0, 99)));
            predicted("a ferry below the bluff", i >= 0, bid.then(game -> {
                game.placeBluff(1, 0, 99);
                game.playFerry(0, 0);
            }));
            predicted("at a lower tide", true, bid.then(game -> game.setTide(8)));
        }
        Start bluff = Games.FULL.then(game -> {
            game.placeBluff(0, 0, 1);
            game.placeBid(1, 0, 99);
        });
        predicted("a bid above a bluff", true, bluff);
        predicted("a bluff with a ferry below a bid", false, bluff.then(game -> game.playFerry(0, 0)));
    }

    private void predicted(String what, boolean builds, Start start) {
        answers(what, builds, start, game -> game.wouldBuild(0));
        answers(what + ", settled", builds, start, game -> game.settle(0));
        due(what + ", nothing is settled", Sight.of(start.make()), () -> {
            BridgeAuction game = start.make();
            game.wouldBuild(0);
            return Sight.of(game);
        });
    }

    @Sentence(promise = 31, text = "Throws `IndexOutOfBoundsException` if there is no such site")
    void wouldBuildOfNoSite() {
        noSuchSite(BridgeAuction::wouldBuild);
    }

    @Sentence(promise = 31, text = "Throws `IllegalStateException` if the site is built")
    void wouldBuildOfABridge() {
        refused("built", STATE, BIDS, game -> game.wouldBuild(2));
        refused("built by ferry", STATE, BIDS.then(game -> game.settle(0)), game -> game.wouldBuild(0));
    }

    @Sentence(promise = 31, text = "Throws `NoSuchElementException` if there are no bids on the site")
    void wouldBuildWithoutBids() {
        refused("no bids", ELEMENT, BIDS, game -> game.wouldBuild(3));
        refused("settled but free", ELEMENT, BIDS.then(game -> game.settle(1)), game -> game.wouldBuild(1));
        refused("withdrawn", ELEMENT, BIDS.then(game -> game.withdrawBid(1, 1)), game -> game.wouldBuild(1));
    }

    // ---- promise 32: cheapestFreeSite

    @Sentence(promise = 32, text = "Returns the free site with the lowest building cost.")
    @Sentence(promise = 32, text = "Returns the index of the site.")
    void cheapestFreeSite() {
        BridgeAuction game = Games.FULL.make();
        int[] order = {3, 2, 4, 0, 5, 6, 7, 8, 9, 10, 1, 11};
        for (int i = 0; i < 12; i++) {
            int left = i;
            due("after " + i, order[left], game::cheapestFreeSite);
            game.setTide(9 - i % 10);
            due("at another tide", order[left], game::cheapestFreeSite);
            game.setTide(0);
            Games.build(game, i % 4, order[i]);
        }
        answers("the last", 11, Games.FULL.then(there -> {
            for (int site = 0; site < 11; site++) {
                Games.build(there, 0, site);
            }
        }), BridgeAuction::cheapestFreeSite);
        answers("bids do not count", 3, Games.FULL.then(there -> there.placeBid(0, 3, 50)),
                BridgeAuction::cheapestFreeSite);
    }

    @Sentence(promise = 32, text = "Of several such sites, the one with the lowest index is returned.")
    void cheapestOfSeveral() {
        Start equal = game -> {
            game.addPlayer(99);
            for (int other = 1; other < 8; other++) {
                game.addSite(0, other, other == 1 ? 5 : 4);
            }
        };
        for (int i = 1; i < 7; i++) {
            int built = i;
            Start some = equal.then(game -> {
                for (int site = 1; site < built; site++) {
                    Games.build(game, 0, site);
                }
            });
            answers("without " + (i - 1), i, some, BridgeAuction::cheapestFreeSite);
        }
        answers("two of length 9", 1, Games.FULL.then(game -> {
            for (int site = 0; site < 11; site++) {
                if (site != 1) {
                    Games.build(game, 0, site);
                }
            }
        }), BridgeAuction::cheapestFreeSite);
    }

    @Sentence(promise = 32, text = "Throws `NoSuchElementException` if there is no free site")
    void noFreeSite() {
        refused("no sites", ELEMENT, Games.EMPTY, BridgeAuction::cheapestFreeSite);
        Start players = game -> Games.addPlayers(game, 99, 99);
        refused("players alone", ELEMENT, players, BridgeAuction::cheapestFreeSite);
        Start one = players.then(game -> Games.bridge(game, 1, 0, 1, 9));
        refused("one bridge", ELEMENT, one, BridgeAuction::cheapestFreeSite);
        Start all = Games.FULL.then(game -> {
            for (int site = 0; site < 12; site++) {
                Games.build(game, 0, site);
            }
        });
        refused("twelve bridges", ELEMENT, all, BridgeAuction::cheapestFreeSite);
        answers("one undone", 11, all.then(BridgeAuction::undo), BridgeAuction::cheapestFreeSite);
    }
}
