/** How a game comes to the state in which a test begins; each game is made anew. */
interface Start {
    void on(BridgeAuction game);

    default BridgeAuction make() {
        BridgeAuction game = new BridgeAuction();
        on(game);
        return game;
    }

    default Start then(Start more) {
        return game -> {
            on(game);
            more.on(game);
        };
    }
}
