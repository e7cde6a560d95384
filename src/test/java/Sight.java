/** All that the questions of the face tell of a game, in one text. Asking changes nothing. */
final class Sight {
    private final StringBuilder text = new StringBuilder();

    static String of(BridgeAuction game) {
        Sight sight = new Sight();
        sight.totals(game);
        sight.graph(game);
        sight.players(game);
        sight.sites(game);
        sight.output(game);
        return sight.text.toString();
    }

    private void see(String name, Checks.Call call) {
        text.append(name).append('=');
        try {
            text.append(call.answer());
        } catch (RuntimeException e) {
            text.append(e.getClass().getSimpleName());
        }
        text.append('\n');
    }

    private void totals(BridgeAuction game) {
        see("tide", game::tide);
        see("playerCount", game::playerCount);
        see("siteCount", game::siteCount);
        see("cheapestFreeSite", game::cheapestFreeSite);
        see("bankMoney", game::bankMoney);
        see("settledTotal", game::settledTotal);
        see("bluffTotal", game::bluffTotal);
        see("meanBridgeLength", game::meanBridgeLength);
        see("builtShare", game::builtShare);
        see("isConsistent", game::isConsistent);
        see("errorPosition", game::errorPosition);
        see("failedCommand", game::failedCommand);
    }

    private void graph(BridgeAuction game) {
        see("componentCount", game::componentCount);
        see("componentCountByUnion", game::componentCountByUnion);
        see("forestLength", game::forestLength);
        see("forestLengthByPrim", game::forestLengthByPrim);
        for (int i = -1; i <= 8; i++) {
            int first = i;
            see("suit " + i, () -> game.suit(first));
            for (int j = -1; j <= 8; j++) {
                int second = j;
                see("isConnected " + i + " " + j, () -> game.isConnected(first, second));
                see("distance " + i + " " + j, () -> game.distance(first, second));
                see("distanceByRelaxation " + i + " " + j, () -> game.distanceByRelaxation(first, second));
            }
        }
    }

    private void players(BridgeAuction game) {
        for (int i = -1; i <= 4; i++) {
            int player = i;
            see("money " + i, () -> game.money(player));
            see("availableMoney " + i, () -> game.availableMoney(player));
            see("isFerryUsed " + i, () -> game.isFerryUsed(player));
            see("bridgeCount " + i, () -> game.bridgeCount(player));
            see("score " + i, () -> game.score(player));
            see("playerByScore " + i, () -> game.playerByScore(player));
        }
    }

    private void sites(BridgeAuction game) {
        for (int j = -1; j <= 12; j++) {
            int site = j;
            see("lowerIsland " + j, () -> game.lowerIsland(site));
            see("higherIsland " + j, () -> game.higherIsland(site));
            see("length " + j, () -> game.length(site));
            see("buildingCost " + j, () -> game.buildingCost(site));
            see("isBuilt " + j, () -> game.isBuilt(site));
            see("builder " + j, () -> game.builder(site));
            see("bidCount " + j, () -> game.bidCount(site));
            see("ferryOwner " + j, () -> game.ferryOwner(site));
            see("winningBidder " + j, () -> game.winningBidder(site));
            see("wouldBuild " + j, () -> game.wouldBuild(site));
            for (int i = -1; i <= 4; i++) {
                int player = i;
                see("bidAmount " + i + " " + j, () -> game.bidAmount(player, site));
                see("isBluff " + i + " " + j, () -> game.isBluff(player, site));
            }
        }
    }

    private void output(BridgeAuction game) {
        text.append("output=").append(outputOf(game)).append('\n');
    }

    static String outputOf(BridgeAuction game) {
        StringBuilder output = new StringBuilder();
        for (int index = 0; index < 1000; index++) {
            try {
                output.append(game.outputAt(index));
            } catch (IndexOutOfBoundsException e) {
                return output.toString();
            }
        }
        return output.toString();
    }
}
