import java.lang.reflect.Field;

/** Promises 40 to 46: ranks, totals, shares and the check of the state. */
public final class TotalsTest extends Suite {
    public static void main(String[] arguments) {
        new TotalsTest().run();
    }

    // ---- promise 40: playerByScore

    private void ranks(String what, Start start, int... players) {
        for (int i = 0; i < players.length; i++) {
            int rank = i;
            answers(what + ", rank " + i, players[i], start, game -> game.playerByScore(rank));
        }
    }

    @Sentence(promise = 40, text = "Returns the player at a rank when players are sorted by score in descending order, "
            + "then by money in descending order, then by index in ascending order.")
    @Sentence(promise = 40, text = "Returns the index of the player.")
    void playerByScore() {
        ranks("alone", game -> game.addPlayer(0), 0);
        ranks("all equal", Games.FULL, 0, 1, 2, 3);
        Start four = game -> Games.addPlayers(game, 20, 30, 30, 25);
        ranks("by money, then index", four, 1, 2, 3, 0);
        Start first = four.then(game -> Games.bridge(game, 0, 0, 1, 4));
        ranks("by score", first, 0, 1, 2, 3);
        Start equal = first.then(game -> Games.bridge(game, 3, 0, 2, 4));
        ranks("equal score, by money", equal, 3, 0, 1, 2);
        Start higher = equal.then(game -> Games.bridge(game, 2, 1, 2, 5));
        ranks("by score again", higher, 2, 3, 0, 1);
        ranks("reserved money counts", higher.then(game -> game.placeBid(3, game.addSite(4, 5, 1), 15)), 2, 3, 0, 1);
        Start suits = higher.then(game -> game.setSuit(1, 0));
        ranks("suits count", suits, 0, 2, 3, 1);
        Start even = game -> {
            Games.addPlayers(game, 9, 10, 8, 10);
            Games.bridge(game, 1, 0, 1, 2);
            Games.bridge(game, 3, 0, 2, 2);
        };
        ranks("score and money are equal", even, 1, 3, 0, 2);
        Start money = game -> Games.addPlayers(game, 1, 2, 3, 4);
        ranks("reversed", money, 3, 2, 1, 0);
        ranks("one unit of money less", money.then(game -> {
            game.addSite(0, 1, 9);
            game.placeBid(3, 0, 2);
            game.settle(0);
        }), 2, 1, 3, 0);
    }

    @Sentence(promise = 40, text = "Throws `NoSuchElementException` if there is no such rank")
    void noSuchRank() {
        for (int i = 0; i <= 4; i++) {
            int count = i;
            Start some = game -> Games.addPlayers(game, new int[count]);
            for (int wrong : new int[] {-1, i, i + 1, 4, 256, 65536, Integer.MIN_VALUE, Integer.MAX_VALUE}) {
                refused("rank " + wrong + " of " + i, ELEMENT, some, game -> game.playerByScore(wrong));
            }
            for (int right = 0; right < i; right++) {
                int rank = right;
                answers("rank " + right + " of " + i, rank, some, game -> game.playerByScore(rank));
            }
        }
    }

    // ---- promises 41 to 43: totals

    @Sentence(promise = 41, text = "Returns the money that all players together have paid to the bank.")
    @Sentence(promise = 41, text = "Returns the money.")
    void bankMoney() {
        answers("nothing at first", 0, Games.FULL, BridgeAuction::bankMoney);
        answers("bids are not paid", 0, Games.FULL.then(game -> game.placeBid(0, 0, 99)), BridgeAuction::bankMoney);
        Start all = Games.FULL.then(game -> {
            for (int player = 0; player < 4; player++) {
                game.placeBid(player, player, 99);
                game.settle(player);
            }
        });
        answers("all the money there is", 396, all, BridgeAuction::bankMoney);
        BridgeAuction game = Games.THREE.make();
        Games.build(game, 0, 0);
        due("a bridge", 3, game::bankMoney);
        game.placeBid(1, 1, 8);
        game.settle(1);
        due("a bid below the cost", 11, game::bankMoney);
        game.placeBluff(2, 1, 8);
        game.settle(1);
        due("all of the poor", 15, game::bankMoney);
        game.placeBluff(2, 1, 8);
        game.settle(1);
        due("nothing of who has nothing", 15, game::bankMoney);
        Games.run(game, "bluff 0 1 01;settle 1");
        due("a penalty in a script", 20, game::bankMoney);
        game.undo();
        due("undone", 15, game::bankMoney);
    }

    @Sentence(promise = 42, text = "Returns how many sites have been settled so far.")
    @Sentence(promise = 42, text = "Returns the number of calls of settle, including those in scripts.")
    void settledTotal() {
        BridgeAuction game = Games.FULL.make();
        due("none", 0, game::settledTotal);
        Games.build(game, 0, 0);
        due("built", 1, game::settledTotal);
        game.placeBid(1, 1, 8);
        due("not by a bid", 1, game::settledTotal);
        game.settle(1);
        due("below the cost", 2, game::settledTotal);
        game.placeBluff(2, 1, 8);
        game.settle(1);
        due("a bluff", 3, game::settledTotal);
        Checks.answerOf(() -> game.settle(0));
        Checks.answerOf(() -> game.settle(2));
        Checks.answerOf(() -> game.settle(12));
        due("not by a refused call", 3, game::settledTotal);
        Games.run(game, "bluff 0 1 1;settle 1;bid 0 1 9;settle 1");
        due("two in a script", 5, game::settledTotal);
        Games.runInVain(game, "bluff 0 2 1;settle 2;settle 2");
        due("not by a failing script", 5, game::settledTotal);
        game.undo();
        due("undone", 3, game::settledTotal);
    }

    @Sentence(promise = 43, text = "Returns how many winning bids were bluffs so far.")
    @Sentence(promise = 43, text = "Returns the number of bluffs.")
    void bluffTotal() {
        BridgeAuction game = Games.FULL.make();
        due("none", 0, game::bluffTotal);
        game.placeBluff(0, 0, 1);
        due("not by placing", 0, game::bluffTotal);
        game.placeBid(1, 0, 2);
        game.settle(0);
        due("not by losing", 0, game::bluffTotal);
        game.placeBid(1, 1, 1);
        game.placeBluff(0, 1, 2);
        game.settle(1);
        due("by winning", 1, game::bluffTotal);
        game.placeBid(1, 1, 1);
        game.placeBluff(0, 1, 2);
        game.playFerry(1, 1);
        game.settle(1);
        due("not against a ferry", 1, game::bluffTotal);
        game.setSuit(5, 0);
        game.placeBluff(0, 1, 1);
        game.placeBid(1, 1, 50);
        game.playFerry(0, 1);
        game.settle(1);
        due("with a ferry", 2, game::bluffTotal);
        Games.run(game, "bluff 0 1 1;settle 1;bluff 0 1 9;settle 1");
        due("two in a script", 4, game::bluffTotal);
        game.undo();
        due("undone", 2, game::bluffTotal);
    }

    // ---- promises 44 and 45: means and shares

    @Sentence(promise = 44, text = "Returns the mean length of the built sites: the sum divided by the number, both "
            + "converted to double.")
    @Sentence(promise = 44, text = "Returns the mean length.")
    void meanBridgeLength() {
        int sum = 0;
        BridgeAuction game = Games.FULL.make();
        for (int i = 0; i < 12; i++) {
            Games.build(game, i % 4, i);
            sum += Games.SITES[i][2];
            double due = (double) sum / (double) (i + 1);
            due("of " + (i + 1), due, game::meanBridgeLength);
        }
        game.setTide(9);
        due("the tide counts nothing", 59.0 / 12.0, game::meanBridgeLength);
        Start half = Games.FULL.then(there -> {
            Games.build(there, 0, 3);
            Games.build(there, 0, 2);
        });
        answers("no rounding", 1.5, half, BridgeAuction::meanBridgeLength);
        answers("undone", 1.0, half.then(there -> {
            there.undo();
            there.undo();
        }), BridgeAuction::meanBridgeLength);
        Start shortest = there -> {
            there.addPlayer(1);
            Games.bridge(there, 0, 0, 1, 1);
        };
        answers("shortest", 1.0, shortest, BridgeAuction::meanBridgeLength);
    }

    @Sentence(promise = 44, text = "Throws `ArithmeticException` if no site is built")
    void meanOfNothing() {
        refused("no sites", ARITHMETIC, Games.EMPTY, BridgeAuction::meanBridgeLength);
        refused("free sites", ARITHMETIC, Games.FULL, BridgeAuction::meanBridgeLength);
        Start bids = Games.FULL.then(game -> game.placeBid(0, 0, 2));
        refused("bids", ARITHMETIC, bids, BridgeAuction::meanBridgeLength);
        refused("settled but free", ARITHMETIC, bids.then(game -> game.settle(0)), BridgeAuction::meanBridgeLength);
        Start undone = Games.FULL.then(game -> {
            Games.build(game, 0, 0);
            game.undo();
        });
        refused("undone", ARITHMETIC, undone, BridgeAuction::meanBridgeLength);
    }

    @Sentence(promise = 45, text = "Returns the share of the sites that are built: the number of built sites divided "
            + "by the number of sites, both converted to float.")
    @Sentence(promise = 45, text = "Returns the share.")
    void builtShare() {
        for (int i = 1; i <= 12; i++) {
            int sites = i;
            Start some = game -> {
                Games.addPlayers(game, 99, 99, 99, 99);
                Games.addSites(game, sites);
            };
            answers("none of " + i, 0.0f, some, BridgeAuction::builtShare);
            for (int j = 1; j <= i; j++) {
                int bridges = j;
                float due = (float) j / (float) i;
                answers(j + " of " + i, due, some.then(game -> {
                    for (int site = 0; site < bridges; site++) {
                        Games.build(game, site % 4, site);
                    }
                }), BridgeAuction::builtShare);
            }
        }
    }

    @Sentence(promise = 45, text = "Throws `ArithmeticException` if there are no sites")
    void shareOfNothing() {
        refused("new game", ARITHMETIC, Games.EMPTY, BridgeAuction::builtShare);
        Start players = game -> Games.addPlayers(game, 1, 2, 3, 4);
        refused("players alone", ARITHMETIC, players, BridgeAuction::builtShare);
        Start undone = game -> {
            game.addSite(0, 1, 1);
            game.undo();
        };
        refused("the only site undone", ARITHMETIC, undone, BridgeAuction::builtShare);
        answers("one free site", 0.0f, game -> game.addSite(0, 1, 1), BridgeAuction::builtShare);
    }

    // ---- promise 46: isConsistent

    @Sentence(promise = 46, text = "Returns true if all of this holds.")
    void isConsistent() {
        answers("new game", true, Games.EMPTY, BridgeAuction::isConsistent);
        answers("full game", true, Games.FULL, BridgeAuction::isConsistent);
        answers("in play", true, Games.BUSY, BridgeAuction::isConsistent);
        Start all = Games.FULL.then(game -> {
            for (int site = 0; site < 12; site++) {
                Games.build(game, site % 4, site);
            }
        });
        answers("all built", true, all, BridgeAuction::isConsistent);
        Start nothingLeft = Games.THREE.then(game -> {
            game.placeBid(0, 0, 50);
            game.placeBluff(0, 1, 9);
            game.settle(1);
        });
        answers("nothing available", true, nothingLeft, BridgeAuction::isConsistent);
        Start late = nothingLeft.then(game -> {
            game.settle(0);
            game.addPlayer(99);
        });
        answers("a late player", true, late, BridgeAuction::isConsistent);
        answers("undone", true, late.then(BridgeAuction::undo), BridgeAuction::isConsistent);
        answers("restored", true, game -> {
            game.save();
            late.on(game);
            game.restore();
        }, BridgeAuction::isConsistent);
    }

    /** No call can bring about what isConsistent denies, so this test reaches into the object for it. */
    @Sentence(promise = 46, text = "Checks the state: both ways to find distances agree for all pairs of islands, both "
            + "ways to count components agree, both ways to find the length of a minimum spanning forest agree, no "
            + "player has negative available money, and the initial money of all players is the sum of their money "
            + "and the money of the bank.")
    void inconsistentStates() {
        BridgeAuction game = Games.BUSY.make();
        due("as it is", true, game::isConsistent);
        add(game, "bank", 1);
        due("the bank has 1 too much", false, game::isConsistent);
        add(game, "bank", -2);
        due("the bank has 1 too little", false, game::isConsistent);
        add(game, "bank", 1);
        due("the bank is right", true, game::isConsistent);
        for (int player = 0; player < 4; player++) {
            int available = game.availableMoney(player);
            move(game, player, available);
            due("nothing is available", true, game::isConsistent);
            move(game, player, 1);
            due("available money is -1", false, game::isConsistent);
            move(game, player, -1 - available);
            due("as it was", true, game::isConsistent);
        }
        BridgeAuction apart = new BridgeAuction();
        apart.addPlayer(99);
        Games.bridge(apart, 0, 0, 1, 3);
        Games.bridge(apart, 0, 2, 3, 4);
        addToLength(apart, 1, 6);
        due("forests do not agree over a length of 10", false, apart::isConsistent);
        addToLength(apart, 0, -13);
        due("distances do not agree over one of -10", false, apart::isConsistent);
        addToLength(apart, 0, 13);
        addToLength(apart, 1, -6);
        due("lengths are right", true, apart::isConsistent);
    }

    /** The player pays the bank, so that the sum of all money stays. */
    private static void move(BridgeAuction game, int player, int money) {
        ((int[]) held(game, "moneys"))[player] -= money;
        add(game, "bank", money);
    }

    private static void addToLength(BridgeAuction game, int site, int more) {
        ((int[]) held(game, "lengths"))[site] += more;
    }

    private static void add(BridgeAuction game, String name, int more) {
        try {
            Object inside = inside(game);
            Field field = field(inside, name);
            field.setInt(inside, field.getInt(inside) + more);
        } catch (ReflectiveOperationException e) {
            throw new IllegalStateException(e);
        }
    }

    private static Object held(BridgeAuction game, String name) {
        try {
            Object inside = inside(game);
            return field(inside, name).get(inside);
        } catch (ReflectiveOperationException e) {
            throw new IllegalStateException(e);
        }
    }

    private static Object inside(BridgeAuction game) throws ReflectiveOperationException {
        return field(game, "game").get(game);
    }

    private static Field field(Object holder, String name) throws ReflectiveOperationException {
        Field field = holder.getClass().getDeclaredField(name);
        field.setAccessible(true);
        return field;
    }
}
