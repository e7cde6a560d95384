/** Promises 6 to 10: bids, bluffs, ferries and settling. */
public final class BiddingTest extends Suite {
    private static final int[] NO_AMOUNTS = {-1, 0, 100, 101, -50, 257, 65537, Integer.MIN_VALUE, Integer.MAX_VALUE};
    private static final int[] AMOUNTS = {1, 2, 50, 98, 99};

    /** Site 0 is built; on site 1 lie a bid with a ferry and a bluff; on site 2 lies all that player 2 has. */
    private static final Start TABLE = Games.THREE.then(game -> {
        Games.build(game, 0, 0);
        game.placeBid(1, 1, 10);
        game.placeBluff(0, 1, 30);
        game.playFerry(1, 1);
        game.placeBid(2, 2, 4);
    });

    public static void main(String[] arguments) {
        new BiddingTest().run();
    }

    // ---- promise 6: placeBid

    @Sentence(promise = 6, text = "Places a genuine bid.")
    @Sentence(promise = 6, text = "Returns the available money of the player after the call.")
    void placeBid() {
        BridgeAuction game = Games.THREE.make();
        due("first", 40, () -> game.placeBid(0, 0, 10));
        due("of another", 49, () -> game.placeBid(1, 0, 11));
        due("own bid replaced", 38, () -> game.placeBid(0, 0, 12));
        due("still two bids", 2, () -> game.bidCount(0));
        due("amount", 12, () -> game.bidAmount(0, 0));
        due("genuine", false, () -> game.isBluff(0, 0));
        due("all the rest on another site", 0, () -> game.placeBid(0, 1, 38));
        due("not paid yet", 50, () -> game.money(0));
        due("bank", 0, game::bankMoney);
        game.placeBluff(2, 2, 3);
        due("for the own bluff", 0, () -> game.placeBid(2, 2, 4));
        due("genuine now", false, () -> game.isBluff(2, 2));
    }

    @Sentence(promise = 6, text = "Throws `IndexOutOfBoundsException` if there is no such player or no such site")
    void placeBidByNoPlayerOrSite() {
        noSuchPlayer((game, player) -> game.placeBid(player, 0, 1));
        noSuchSite((game, site) -> game.placeBid(0, site, 1));
        refused("neither", INDEX, Games.FULL, game -> game.placeBid(4, 12, 1));
        refused("neither is there yet", INDEX, Games.EMPTY, game -> game.placeBid(0, 0, 1));
    }

    @Sentence(promise = 6, text = "Throws `IllegalArgumentException` if the amount is not between 1 and 99")
    void placeBidOfNoAmount() {
        for (int wrong : NO_AMOUNTS) {
            refused("amount " + wrong, ARGUMENT, Games.FULL, game -> game.placeBid(0, 0, wrong));
            refused("amount " + wrong + " on bids", ARGUMENT, TABLE, game -> game.placeBid(1, 1, wrong));
        }
        for (int right : AMOUNTS) {
            answers("amount " + right, 99 - right, Games.FULL, game -> game.placeBid(0, 0, right));
        }
    }

    @Sentence(promise = 6, text = "Throws `IllegalStateException` if the site is built")
    void placeBidOnABridge() {
        for (int amount : new int[] {1, 3, 40}) {
            refused("of the builder, " + amount, STATE, TABLE, game -> game.placeBid(0, 0, amount));
            refused("of another, " + amount, STATE, TABLE, game -> game.placeBid(1, 0, amount));
        }
        Start unbuilt = Games.THREE.then(game -> {
            game.placeBid(0, 0, 2);
            game.settle(0);
        });
        answers("settled but free", 47, unbuilt, game -> game.placeBid(0, 0, 1));
    }

    @Sentence(promise = 6, text = "Throws `UnsupportedOperationException` if the amount is not greater than the "
            + "highest amount on the site, or the player cannot afford it")
    void placeBidTooLowOrTooDear() {
        for (int low : new int[] {1, 10, 11, 29, 30}) {
            refused("not above the bluff: " + low, UNSUPPORTED, TABLE, game -> game.placeBid(0, 1, low));
            refused("not above it, with a ferry: " + low, UNSUPPORTED, TABLE, game -> game.placeBid(1, 1, low));
        }
        answers("one above, for the own bluff", 16, TABLE, game -> game.placeBid(0, 1, 31));
        answers("one above, under the own ferry", 29, TABLE, game -> game.placeBid(1, 1, 31));
        refused("not above the own bid", UNSUPPORTED, TABLE, game -> game.placeBid(2, 2, 4));
        refused("more than the own bid, which is all", UNSUPPORTED, TABLE, game -> game.placeBid(2, 2, 5));
        answers("another's one above", 45, TABLE, game -> game.placeBid(1, 2, 5));
        answers("all the money", 0, Games.THREE, game -> game.placeBid(0, 0, 50));
        refused("one more than all", UNSUPPORTED, Games.THREE, game -> game.placeBid(0, 0, 51));
        Start elsewhere = Games.THREE.then(game -> game.placeBid(0, 0, 50));
        refused("no money left", UNSUPPORTED, elsewhere, game -> game.placeBid(0, 1, 1));
        Start paid = Games.THREE.then(game -> Games.build(game, 2, 2));
        answers("all that is left", 0, paid, game -> game.placeBid(2, 0, 2));
        refused("more than is left", UNSUPPORTED, paid, game -> game.placeBid(2, 0, 3));
        Start top = Games.FULL.then(game -> game.placeBid(0, 0, 99));
        refused("nothing is above 99", UNSUPPORTED, top, game -> game.placeBid(1, 0, 99));
    }

    // ---- promise 7: placeBluff

    @Sentence(promise = 7, text = "Places a bluff.")
    @Sentence(promise = 7, text = "Returns the number of bids on the site after the call.")
    void placeBluff() {
        BridgeAuction game = Games.FULL.make();
        due("first", 1, () -> game.placeBluff(2, 0, 1));
        due("own bluff replaced", 1, () -> game.placeBluff(2, 0, 60));
        due("bluff", true, () -> game.isBluff(2, 0));
        due("amount", 60, () -> game.bidAmount(2, 0));
        due("second", 2, () -> game.placeBluff(0, 0, 61));
        due("third", 3, () -> game.placeBluff(3, 0, 62));
        due("fourth", 4, () -> game.placeBluff(1, 0, 98));
        due("highest", 4, () -> game.placeBluff(0, 0, 99));
        due("reserves nothing", 99, () -> game.availableMoney(0));
        due("on another site", 1, () -> game.placeBluff(0, 11, 5));
        game.placeBid(0, 1, 30);
        due("for the own bid", 1, () -> game.placeBluff(0, 1, 31));
        due("bluff now", true, () -> game.isBluff(0, 1));
        due("nothing reserved", 99, () -> game.availableMoney(0));
    }

    @Sentence(promise = 7, text = "Throws `IndexOutOfBoundsException` if there is no such player or no such site")
    void placeBluffByNoPlayerOrSite() {
        noSuchPlayer((game, player) -> game.placeBluff(player, 0, 1));
        noSuchSite((game, site) -> game.placeBluff(0, site, 1));
        refused("neither", INDEX, Games.FULL, game -> game.placeBluff(4, 12, 1));
        refused("neither is there yet", INDEX, Games.EMPTY, game -> game.placeBluff(0, 0, 1));
    }

    @Sentence(promise = 7, text = "Throws `IllegalArgumentException` if the amount is not between 1 and 99")
    void placeBluffOfNoAmount() {
        for (int wrong : NO_AMOUNTS) {
            refused("amount " + wrong, ARGUMENT, Games.FULL, game -> game.placeBluff(0, 0, wrong));
            refused("amount " + wrong + " on bids", ARGUMENT, TABLE, game -> game.placeBluff(1, 1, wrong));
        }
        for (int right : AMOUNTS) {
            answers("amount " + right, 1, Games.THREE, game -> game.placeBluff(2, 0, right));
        }
    }

    @Sentence(promise = 7, text = "Throws `IllegalStateException` if the site is built")
    void placeBluffOnABridge() {
        for (int amount : new int[] {1, 3, 99}) {
            refused("of the builder, " + amount, STATE, TABLE, game -> game.placeBluff(0, 0, amount));
            refused("of another, " + amount, STATE, TABLE, game -> game.placeBluff(1, 0, amount));
        }
        Start unbuilt = Games.THREE.then(game -> {
            game.placeBluff(0, 0, 99);
            game.settle(0);
        });
        answers("settled but free", 1, unbuilt, game -> game.placeBluff(0, 0, 1));
    }

    @Sentence(promise = 7, text = "Throws `UnsupportedOperationException` if the amount is not greater than the "
            + "highest amount on the site")
    void placeBluffTooLow() {
        for (int low : new int[] {1, 10, 11, 29, 30}) {
            refused("not above the own: " + low, UNSUPPORTED, TABLE, game -> game.placeBluff(0, 1, low));
            refused("under the own ferry: " + low, UNSUPPORTED, TABLE, game -> game.placeBluff(1, 1, low));
            refused("not above others': " + low, UNSUPPORTED, TABLE, game -> game.placeBluff(2, 1, low));
        }
        answers("one above, a third bid", 3, TABLE, game -> game.placeBluff(2, 1, 31));
        answers("one above the own", 2, TABLE, game -> game.placeBluff(0, 1, 31));
        refused("not above a genuine bid", UNSUPPORTED, TABLE, game -> game.placeBluff(0, 2, 4));
        answers("one above a genuine bid", 2, TABLE, game -> game.placeBluff(0, 2, 5));
        Start top = Games.THREE.then(game -> game.placeBluff(0, 0, 98));
        answers("99 is above 98", 2, top, game -> game.placeBluff(1, 0, 99));
        Start full = top.then(game -> game.placeBluff(1, 0, 99));
        refused("nothing is above 99", UNSUPPORTED, full, game -> game.placeBluff(2, 0, 99));
    }

    // ---- promise 8: withdrawBid

    @Sentence(promise = 8, text = "Withdraws the bid of a player.")
    @Sentence(promise = 8, text = "Returns the amount of the bid.")
    void withdrawBid() {
        BridgeAuction game = Games.THREE.make();
        game.placeBid(0, 0, 1);
        game.placeBluff(1, 0, 98);
        game.placeBluff(2, 0, 99);
        game.placeBid(0, 1, 9);
        due("highest bluff", 99, () -> game.withdrawBid(2, 0));
        due("two are left", 2, () -> game.bidCount(0));
        due("lowest bid", 1, () -> game.withdrawBid(0, 0));
        due("bid elsewhere stays", 41, () -> game.availableMoney(0));
        due("last one", 98, () -> game.withdrawBid(1, 0));
        due("none is left", 0, () -> game.bidCount(0));
        due("no winner", ELEMENT, () -> game.winningBidder(0));
        due("lower bids are possible again", 1, () -> game.placeBluff(2, 0, 1));
        due("money is free again", 0, () -> game.withdrawBid(0, 1) - 9);
        due("all of it", 50, () -> game.availableMoney(0));
        due("nothing was paid", 0, game::bankMoney);
    }

    @Sentence(promise = 8, text = "Throws `IndexOutOfBoundsException` if there is no such player or no such site")
    void withdrawBidByNoPlayerOrSite() {
        noSuchPlayer((game, player) -> game.withdrawBid(player, 1));
        noSuchSite((game, site) -> game.withdrawBid(0, site));
        refused("neither", INDEX, Games.FULL, game -> game.withdrawBid(4, 12));
    }

    @Sentence(promise = 8, text = "Throws `NoSuchElementException` if the player has no bid on the site")
    void withdrawNoBid() {
        refused("on a site without bids", ELEMENT, Games.THREE, game -> game.withdrawBid(0, 0));
        refused("on a site with others' bids", ELEMENT, TABLE, game -> game.withdrawBid(2, 1));
        refused("with a bid elsewhere", ELEMENT, TABLE, game -> game.withdrawBid(1, 2));
        refused("on the own bridge", ELEMENT, TABLE, game -> game.withdrawBid(0, 0));
        Start twice = TABLE.then(game -> game.withdrawBid(2, 2));
        refused("twice", ELEMENT, twice, game -> game.withdrawBid(2, 2));
        Start settled = TABLE.then(game -> game.settle(1));
        refused("lost at settling", ELEMENT, settled, game -> game.withdrawBid(0, 1));
    }

    @Sentence(promise = 8, text = "Throws `IllegalStateException` if the ferry of the player lies on the site")
    void withdrawUnderAFerry() {
        refused("genuine bid", STATE, TABLE, game -> game.withdrawBid(1, 1));
        Start bluff = TABLE.then(game -> game.placeBluff(1, 1, 31));
        refused("bluff", STATE, bluff, game -> game.withdrawBid(1, 1));
        Start dry = TABLE.then(game -> {
            game.setSuit(4, 3);
            game.setSuit(5, 3);
        });
        refused("with other suits by now", STATE, dry, game -> game.withdrawBid(1, 1));
        answers("of another player", 30, TABLE, game -> game.withdrawBid(0, 1));
        Start elsewhere = TABLE.then(game -> game.placeBid(1, 2, 5));
        answers("on another site", 5, elsewhere, game -> game.withdrawBid(1, 2));
        Start settled = TABLE.then(game -> {
            game.setTide(9);
            game.settle(1);
            game.placeBid(1, 1, 8);
        });
        answers("after the ferry is gone", 8, settled, game -> game.withdrawBid(1, 1));
        Start undone = Games.THREE.then(game -> {
            game.placeBid(0, 0, 5);
            game.playFerry(0, 0);
            game.undo();
        });
        answers("after the ferry is undone", 5, undone, game -> game.withdrawBid(0, 0));
    }

    // ---- promise 9: playFerry

    @Sentence(promise = 9, text = "Plays the ferry of a player on a site.")
    @Sentence(promise = 9,
            text = "Returns the number of bids on the site with a higher amount than the bid of the player.")
    void playFerry() {
        Start four = Games.FULL.then(game -> {
            game.placeBid(2, 0, 1);
            game.placeBluff(0, 0, 2);
            game.placeBid(3, 0, 98);
            game.placeBluff(1, 0, 99);
        });
        int[] higher = {2, 0, 3, 1};
        for (int i = 0; i < 4; i++) {
            int player = i;
            Start suited = four.then(game -> game.setSuit(4, player));
            answers("higher bids than that of " + i, higher[i], suited, game -> game.playFerry(player, 0));
            Start played = suited.then(game -> game.playFerry(player, 0));
            answers("owner", i, played, game -> game.ferryOwner(0));
            answers("winner", i, played, game -> game.winningBidder(0));
            for (int j = 0; j < 4; j++) {
                int other = j;
                answers("ferry used of " + j, i == j, played, game -> game.isFerryUsed(other));
            }
            answers("no ferry elsewhere", ELEMENT, played, game -> game.ferryOwner(1));
            answers("bids stay", 4, played, game -> game.bidCount(0));
        }
        Start only = Games.THREE.then(game -> game.placeBid(0, 0, 1));
        answers("no other bid", 0, only, game -> game.playFerry(0, 0));
    }

    @Sentence(promise = 9, text = "Throws `IndexOutOfBoundsException` if there is no such player or no such site")
    void playFerryByNoPlayerOrSite() {
        noSuchPlayer((game, player) -> game.playFerry(player, 1));
        noSuchSite((game, site) -> game.playFerry(0, site));
        refused("neither", INDEX, Games.FULL, game -> game.playFerry(4, 12));
    }

    @Sentence(promise = 9, text = "Throws `NoSuchElementException` if the player has no bid on the site")
    void playFerryWithoutABid() {
        refused("on a site without bids", ELEMENT, Games.THREE, game -> game.playFerry(0, 0));
        refused("on a site with others' bids", ELEMENT, TABLE, game -> game.playFerry(0, 2));
        refused("on the own bridge", ELEMENT, TABLE, game -> game.playFerry(0, 0));
        Start withdrawn = Games.THREE.then(game -> {
            game.placeBid(0, 0, 5);
            game.withdrawBid(0, 0);
        });
        refused("after withdrawing", ELEMENT, withdrawn, game -> game.playFerry(0, 0));
        answers("with an amount of 1", 0, Games.THREE.then(game -> game.placeBluff(0, 0, 1)),
                game -> game.playFerry(0, 0));
    }

    @Sentence(promise = 9,
            text = "Throws `IllegalStateException` if the ferry of the player is used, or a ferry lies on the site")
    void playFerryAgainOrOnAnother() {
        refused("the own lies there", STATE, TABLE, game -> game.playFerry(1, 1));
        refused("another's lies there", STATE, TABLE, game -> game.playFerry(0, 1));
        Start elsewhere = TABLE.then(game -> game.placeBid(1, 2, 5));
        refused("the own lies elsewhere", STATE, elsewhere, game -> game.playFerry(1, 2));
        Start settled = elsewhere.then(game -> game.settle(1));
        refused("the own was settled", STATE, settled, game -> game.playFerry(1, 2));
        Start free = TABLE.then(game -> {
            game.setTide(9);
            game.settle(1);
            game.placeBid(0, 1, 3);
        });
        answers("another's was settled", 0, free, game -> game.playFerry(0, 1));
        Start undone = TABLE.then(game -> game.withdrawBid(2, 2)).then(game -> {
            game.undo();
            game.undo();
            game.undo();
        });
        answers("another's was undone", 0, undone, game -> game.playFerry(0, 1));
        answers("the own was undone", 1, undone, game -> game.playFerry(1, 1));
    }

    @Sentence(promise = 9,
            text = "Throws `UnsupportedOperationException` if neither island of the site has the suit of the ferry")
    void playFerryOfAnotherSuit() {
        for (int i = 0; i < 4; i++) {
            for (int j = 0; j < 4; j++) {
                int lower = i;
                int higher = j;
                Start suited = Games.FULL.then(game -> {
                    game.setSuit(0, lower);
                    game.setSuit(4, higher);
                    for (int player = 0; player < 4; player++) {
                        game.placeBluff(player, 0, 4 + player);
                    }
                });
                for (int k = 0; k < 4; k++) {
                    int player = k;
                    String what = "suits " + i + " and " + j + ", player " + k;
                    if (player == lower || player == higher) {
                        answers(what, 3 - player, suited, game -> game.playFerry(player, 0));
                    } else {
                        refused(what, UNSUPPORTED, suited, game -> game.playFerry(player, 0));
                    }
                }
            }
        }
    }

    // ---- promise 10: settle

    @Sentence(promise = 10, text = "Settles a site.")
    @Sentence(promise = 10, text = "Returns true if the site is built by the call.")
    void settle() {
        Start bids = Games.THREE.then(game -> {
            game.setTide(4);
            game.placeBid(0, 0, 6);
            game.placeBid(1, 0, 7);
            game.placeBid(0, 1, 20);
        });
        BridgeAuction game = bids.make();
        due("the building cost", true, () -> game.settle(0));
        due("builder", 1, () -> game.builder(0));
        due("winner has paid", 53, () -> game.money(1));
        due("loser has not", 50, () -> game.money(0));
        due("loser's bid elsewhere", 30, () -> game.availableMoney(0));
        due("bank", 7, game::bankMoney);
        game.placeBid(1, 2, 5);
        due("one below the cost", false, () -> game.settle(2));
        due("is paid all the same", 48, () -> game.money(1));
        due("bank again", 12, game::bankMoney);
        due("settled", 2, game::settledTotal);
        due("no bluffs", 0, game::bluffTotal);
        game.placeBluff(0, 2, 99);
        due("a bluff above the cost", false, () -> game.settle(2));
        due("penalty", 17, game::bankMoney);
        due("a bluff", 1, game::bluffTotal);
        due("the other site stays free", false, () -> game.isBuilt(1));
        Start losing = Games.THREE.then(there -> {
            there.placeBluff(0, 0, 3);
            there.placeBid(1, 0, 4);
        });
        answers("against a bluff", true, losing, there -> there.settle(0));
        answers("a losing bluff pays nothing", 50, losing.then(there -> there.settle(0)), there -> there.money(0));
        Start ferry = bids.then(there -> there.playFerry(0, 0));
        answers("the ferry's bid is below the cost", false, ferry, there -> there.settle(0));
        answers("its player pays", 44, ferry.then(there -> there.settle(0)), there -> there.money(0));
    }

    @Sentence(promise = 10, text = "Throws `IndexOutOfBoundsException` if there is no such site")
    void settleNoSite() {
        noSuchSite(BridgeAuction::settle);
    }

    @Sentence(promise = 10, text = "Throws `IllegalStateException` if the site is built")
    void settleABridge() {
        refused("with bids elsewhere", STATE, TABLE, game -> game.settle(0));
        Start all = Games.FULL.then(game -> {
            for (int site = 0; site < 12; site++) {
                Games.build(game, site % 4, site);
            }
        });
        for (int i = 0; i < 12; i++) {
            int site = i;
            refused("bridge " + i, STATE, all, game -> game.settle(site));
        }
        Start undone = Games.THREE.then(game -> {
            Games.build(game, 0, 0);
            game.undo();
        });
        answers("when undone", true, undone, game -> game.settle(0));
    }

    @Sentence(promise = 10, text = "Throws `NoSuchElementException` if there are no bids on the site")
    void settleWithoutBids() {
        refused("at first", ELEMENT, Games.THREE, game -> game.settle(0));
        refused("with bids elsewhere", ELEMENT, Games.BUSY, game -> game.settle(2));
        Start withdrawn = Games.THREE.then(game -> {
            game.placeBid(0, 0, 5);
            game.withdrawBid(0, 0);
        });
        refused("after withdrawing", ELEMENT, withdrawn, game -> game.settle(0));
        Start settled = Games.THREE.then(game -> {
            game.placeBid(0, 0, 1);
            game.settle(0);
        });
        refused("after settling", ELEMENT, settled, game -> game.settle(0));
        Start one = Games.THREE.then(game -> game.placeBid(0, 0, 1));
        answers("with one bid of 1", false, one, game -> game.settle(0));
    }
}
