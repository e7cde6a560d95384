/** The ways to look at all that a game holds. Most looks change the game, so each takes a new one. */
enum Look {
    SIGHT {
        @Override
        String at(BridgeAuction game) {
            return Sight.of(game);
        }
    },
    LATEST_CHANGE {
        @Override
        String at(BridgeAuction game) {
            return Checks.answerOf(game::undo) + Sight.of(game);
        }
    },
    ALL_CHANGES {
        @Override
        String at(BridgeAuction game) {
            return Games.undoAll(game) + Sight.of(game);
        }
    },
    SNAPSHOT {
        @Override
        String at(BridgeAuction game) {
            return Checks.answerOf(game::restore) + Sight.of(game);
        }
    },
    SCRIPT {
        @Override
        String at(BridgeAuction game) {
            return Checks.answerOf(() -> game.type('8')) + " " + Checks.answerOf(game::runScript) + Sight.of(game);
        }
    };

    abstract String at(BridgeAuction game);
}
