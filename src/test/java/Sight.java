/**
 * What the questions of the face tell of a game, in one text of fewer than 350 questions, since an object answers 512
 * calls only. Asking changes nothing.
 */
final class Sight {
    private final BridgeAuction game;
    private final StringBuilder text = new StringBuilder();

    private Sight(BridgeAuction game) {
        this.game = game;
    }

    static String of(BridgeAuction game) {
        Sight sight = new Sight(game);
        sight.totals();
        sight.islands();
        for (int player = 0; player < game.playerCount(); player++) {
            sight.player(player);
        }
        for (int site = 0; site < game.siteCount(); site++) {
            sight.site(site);
        }
        sight.text.append("\noutput ").append(outputOf(game));
        return sight.text.toString();
    }

    static String outputOf(BridgeAuction game) {
        StringBuilder output = new StringBuilder();
        for (int index = 0; index < 1000; index++) {
            try {
                output.append(game.outputAt(index));
            } catch (IndexOutOfBoundsException e) {
                return output.toString();
            }
        }
        return output.toString();
    }

    private void see(String name, Checks.Call call) {
        Object answer = Checks.answerOf(call);
        text.append(' ').append(name).append('=');
        text.append(answer instanceof Class<?> thrown ? thrown.getSimpleName() : answer);
    }

    private void totals() {
        see("tide", game::tide);
        see("bankMoney", game::bankMoney);
        see("settledTotal", game::settledTotal);
        see("bluffTotal", game::bluffTotal);
        see("cheapestFreeSite", game::cheapestFreeSite);
        see("componentCount", game::componentCount);
        see("forestLength", game::forestLength);
        see("isConsistent", game::isConsistent);
        see("errorPosition", game::errorPosition);
        see("failedCommand", game::failedCommand);
    }

    private void islands() {
        for (int i = 0; i < 8; i++) {
            int first = i;
            text.append("\nisland ").append(i);
            see("suit", () -> game.suit(first));
            for (int j = i + 1; j < 8; j++) {
                int second = j;
                see("to" + j, () -> game.distance(first, second));
            }
        }
    }

    private void player(int player) {
        text.append("\nplayer ").append(player);
        see("money", () -> game.money(player));
        see("availableMoney", () -> game.availableMoney(player));
        see("isFerryUsed", () -> game.isFerryUsed(player));
        see("bridgeCount", () -> game.bridgeCount(player));
        see("score", () -> game.score(player));
        see("atThisRank", () -> game.playerByScore(player));
    }

    private void site(int site) {
        text.append("\nsite ").append(site);
        see("lowerIsland", () -> game.lowerIsland(site));
        see("higherIsland", () -> game.higherIsland(site));
        see("length", () -> game.length(site));
        see("buildingCost", () -> game.buildingCost(site));
        see("builder", () -> game.builder(site));
        see("bidCount", () -> game.bidCount(site));
        see("ferryOwner", () -> game.ferryOwner(site));
        for (int i = 0; i < game.playerCount(); i++) {
            int player = i;
            see("bidOf" + i, () -> game.bidAmount(player, site));
            see("isBluffOf" + i, () -> game.isBluff(player, site));
        }
    }
}
