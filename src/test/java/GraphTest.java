/** Promises 33 to 39: the graph of the bridges. */
public final class GraphTest extends Suite {
    /** A square 0-1-2-3 with a diagonal, a triangle 4-5-6, and island 7 at a free site. */
    private static final Start SQUARE = game -> {
        game.addPlayer(99);
        Games.bridge(game, 0, 0, 1, 9);
        Games.bridge(game, 0, 1, 2, 2);
        Games.bridge(game, 0, 3, 2, 4);
        Games.bridge(game, 0, 0, 3, 1);
        Games.bridge(game, 0, 0, 2, 8);
        Games.bridge(game, 0, 4, 5, 5);
        Games.bridge(game, 0, 5, 6, 5);
        Games.bridge(game, 0, 6, 4, 5);
        game.addSite(6, 7, 1);
    };

    private static final int[] PATH = {7, 2, 5, 0, 6, 1, 4, 3};

    /** A path of seven edges of length 9, added from one end to the other. */
    private static final Start LONGEST = game -> {
        game.addPlayer(99);
        for (int i = 0; i < 7; i++) {
            Games.bridge(game, 0, PATH[i], PATH[i + 1], 9);
        }
    };

    /** The same path, added from its other end. */
    private static final Start BACKWARDS = game -> {
        game.addPlayer(99);
        for (int i = 6; i >= 0; i--) {
            Games.bridge(game, 0, PATH[i], PATH[i + 1], 9);
        }
    };

    /** Twelve bridges; the way from 0 to 7 over six short ones is shorter than that over one long one. */
    private static final Start TWELVE = game -> {
        Games.addPlayers(game, 99, 99, 99, 99);
        int[][] edges = {{0, 7, 9}, {0, 1, 1}, {1, 2, 1}, {2, 3, 1}, {3, 4, 1}, {4, 5, 1}, {5, 7, 1}, {0, 6, 9},
            {6, 7, 2}, {0, 5, 6}, {1, 4, 4}, {2, 7, 5}};
        for (int[] edge : edges) {
            Games.bridge(game, edge[0] % 4, edge[0], edge[1], edge[2]);
        }
    };

    public static void main(String[] arguments) {
        new GraphTest().run();
    }

    // ---- promise 33: isConnected

    @Sentence(promise = 33, text = "Returns whether two islands are connected by built sites.")
    void isConnected() {
        answers("free sites", false, Games.FULL, game -> game.isConnected(0, 4));
        Start bids = Games.FULL.then(game -> game.placeBid(0, 0, 99));
        answers("bids", false, bids, game -> game.isConnected(0, 4));
        answers("one bridge", true, bids.then(game -> game.settle(0)), game -> game.isConnected(4, 0));
        answers("round a square", true, SQUARE, game -> game.isConnected(3, 1));
        answers("two parts", false, SQUARE, game -> game.isConnected(3, 4));
        answers("a lone island", false, SQUARE, game -> game.isConnected(7, 6));
        answers("from a lone island", false, SQUARE, game -> game.isConnected(7, 0));
        for (int i = 0; i < 8; i++) {
            for (int j = 0; j < 8; j++) {
                int first = i;
                int second = j;
                answers("path from " + i + " to " + j, true, LONGEST, game -> game.isConnected(first, second));
            }
        }
        Start cut = LONGEST.then(BridgeAuction::undo);
        answers("path without its end", false, cut, game -> game.isConnected(7, 3));
        answers("rest of the path", true, cut, game -> game.isConnected(7, 4));
    }

    @Sentence(promise = 33, text = "Returns true if they are connected, or are the same island.")
    void sameIslandIsConnected() {
        for (int i = 0; i < 8; i++) {
            int island = i;
            answers("new game, " + i, true, Games.EMPTY, game -> game.isConnected(island, island));
            answers("free sites, " + i, true, Games.FULL, game -> game.isConnected(island, island));
            answers("bridges, " + i, true, SQUARE, game -> game.isConnected(island, island));
        }
    }

    @Sentence(promise = 33,
            text = "Throws `IndexOutOfBoundsException` if there is no such island, for either argument")
    void isConnectedAtNoIsland() {
        noSuchPair(BridgeAuction::isConnected);
    }

    private interface ByPair {
        Object on(BridgeAuction game, int first, int second);
    }

    private void noSuchPair(ByPair call) {
        noSuchIsland((game, island) -> call.on(game, island, 0));
        noSuchIsland((game, island) -> call.on(game, 7, island));
        noSuchIsland((game, island) -> call.on(game, island, island));
        refused("either way", INDEX, SQUARE, game -> call.on(game, -1, 8));
    }

    // ---- promises 34 and 35: distances

    private static final int[][] DISTANCES = {{0, 1, 7}, {0, 2, 5}, {1, 3, 6}, {2, 1, 2}, {3, 0, 1}, {4, 6, 5},
        {4, 5, 5}, {3, 2, 4}};

    private void distances(ByPair call) {
        for (int[] row : DISTANCES) {
            answers("from " + row[0] + " to " + row[1], row[2], SQUARE, game -> call.on(game, row[0], row[1]));
            answers("from " + row[1] + " to " + row[0], row[2], SQUARE, game -> call.on(game, row[1], row[0]));
        }
        for (int i = 0; i < 8; i++) {
            for (int j = 0; j < 8; j++) {
                int first = i;
                int second = j;
                int due = Math.abs(i - j) * 9;
                answers(i + " edges to " + j, due, LONGEST, game -> call.on(game, PATH[first], PATH[second]));
                answers(i + " edges back to " + j, due, BACKWARDS, game -> call.on(game, PATH[first], PATH[second]));
            }
        }
        answers("six short edges", 6, TWELVE, game -> call.on(game, 0, 7));
        answers("six short edges back", 6, TWELVE, game -> call.on(game, 7, 0));
        answers("equal ways", 8, TWELVE, game -> call.on(game, 6, 0));
        answers("the tide counts nothing", 7, SQUARE.then(game -> game.setTide(9)), game -> call.on(game, 0, 1));
        for (int[] site : Games.SITES) {
            Start one = game -> {
                game.addPlayer(99);
                Games.bridge(game, 0, site[0], site[1], site[2]);
            };
            answers("one edge", site[2], one, game -> call.on(game, site[1], site[0]));
        }
    }

    private void distancesToThemselves(ByPair call) {
        for (int i = 0; i < 8; i++) {
            int island = i;
            answers("new game, " + i, 0, Games.EMPTY, game -> call.on(game, island, island));
            answers("bridges, " + i, 0, SQUARE, game -> call.on(game, island, island));
            answers("twelve bridges, " + i, 0, TWELVE, game -> call.on(game, island, island));
        }
    }

    private void noDistances(ByPair call) {
        refused("no sites", ELEMENT, Games.EMPTY, game -> call.on(game, 0, 7));
        refused("free sites", ELEMENT, Games.FULL, game -> call.on(game, 0, 4));
        refused("two parts", ELEMENT, SQUARE, game -> call.on(game, 0, 4));
        refused("two parts back", ELEMENT, SQUARE, game -> call.on(game, 6, 3));
        refused("a lone island", ELEMENT, SQUARE, game -> call.on(game, 6, 7));
        refused("from a lone island", ELEMENT, SQUARE, game -> call.on(game, 7, 0));
        Start cut = LONGEST.then(BridgeAuction::undo);
        refused("a path without its end", ELEMENT, cut, game -> call.on(game, 7, 3));
        answers("the rest of the path", 54, cut, game -> call.on(game, 7, 4));
    }

    @Sentence(promise = 34,
            text = "Returns the length of a shortest path between two islands, found by Dijkstra's algorithm.")
    void distance() {
        distances(BridgeAuction::distance);
    }

    @Sentence(promise = 34, text = "Returns the total length of the path, 0 for the same island.")
    void distanceToItself() {
        distancesToThemselves(BridgeAuction::distance);
    }

    @Sentence(promise = 34,
            text = "Throws `IndexOutOfBoundsException` if there is no such island, for either argument")
    void distanceAtNoIsland() {
        noSuchPair(BridgeAuction::distance);
    }

    @Sentence(promise = 34, text = "Throws `NoSuchElementException` if the islands are not connected")
    void distanceOfParts() {
        noDistances(BridgeAuction::distance);
    }

    @Sentence(promise = 35, text = "Returns the same number as distance, found by repeated relaxation of all edges "
            + "(Bellman-Ford).")
    void distanceByRelaxation() {
        distances(BridgeAuction::distanceByRelaxation);
    }

    @Sentence(promise = 35, text = "Returns the total length of the path.")
    void distanceByRelaxationToItself() {
        distancesToThemselves(BridgeAuction::distanceByRelaxation);
    }

    @Sentence(promise = 35,
            text = "Throws `IndexOutOfBoundsException` if there is no such island, for either argument")
    void distanceByRelaxationAtNoIsland() {
        noSuchPair(BridgeAuction::distanceByRelaxation);
    }

    @Sentence(promise = 35, text = "Throws `NoSuchElementException` if the islands are not connected")
    void distanceByRelaxationOfParts() {
        noDistances(BridgeAuction::distanceByRelaxation);
    }

    // ---- promises 36 and 37: components

    private void components(Deed call) {
        answers("no sites", 8, Games.EMPTY, call);
        answers("free sites", 8, Games.FULL, call);
        answers("bids", 8, Games.FULL.then(game -> game.placeBid(0, 0, 99)), call);
        answers("square and triangle", 3, SQUARE, call);
        answers("path", 1, LONGEST, call);
        answers("path backwards", 1, BACKWARDS, call);
        answers("twelve bridges", 1, TWELVE, call);
        for (int kept = 0; kept < 7; kept++) {
            int count = kept;
            answers("path of " + kept, 8 - kept, game -> {
                game.addPlayer(99);
                for (int i = 0; i < count; i++) {
                    Games.bridge(game, 0, PATH[i], PATH[i + 1], 1);
                }
            }, call);
            answers("star of " + kept, 8 - kept, game -> {
                game.addPlayer(99);
                for (int i = 0; i < count; i++) {
                    Games.bridge(game, 0, 7, i, 1);
                }
            }, call);
        }
        int[][] pairs = {{0, 4}, {5, 1}, {2, 6}, {7, 3}, {4, 1}, {6, 3}, {5, 0}, {2, 7}, {0, 3}};
        int[] due = {7, 6, 5, 4, 3, 2, 2, 2, 1};
        BridgeAuction game = new BridgeAuction();
        game.addPlayer(99);
        for (int i = 0; i < pairs.length; i++) {
            Games.bridge(game, 0, pairs[i][0], pairs[i][1], 2);
            due("after pair " + i, due[i], () -> call.on(game));
        }
    }

    @Sentence(promise = 36, text = "Returns the number of connected components, found by depth-first search.")
    @Sentence(promise = 36, text = "Returns the number of components.")
    void componentCount() {
        components(BridgeAuction::componentCount);
    }

    @Sentence(promise = 37,
            text = "Returns the number of connected components, found by joining sets of islands (union-find).")
    @Sentence(promise = 37, text = "Returns the number of components.")
    void componentCountByUnion() {
        components(BridgeAuction::componentCountByUnion);
    }

    // ---- promises 38 and 39: forests

    private void forests(Deed call) {
        answers("no sites", 0, Games.EMPTY, call);
        answers("free sites", 0, Games.FULL, call);
        answers("bids", 0, Games.FULL.then(game -> game.placeBid(0, 0, 99)), call);
        answers("square and triangle", 17, SQUARE, call);
        answers("the tide counts nothing", 17, SQUARE.then(game -> game.setTide(9)), call);
        answers("path", 63, LONGEST, call);
        answers("path backwards", 63, BACKWARDS, call);
        answers("twelve bridges", 8, TWELVE, call);
        for (int i = 1; i <= 9; i++) {
            int length = i;
            answers("length " + i, length, game -> {
                game.addPlayer(99);
                Games.bridge(game, 0, 6, 7, length);
            }, call);
            answers("triangle around " + i, i + Math.min(i, 5), game -> {
                Games.addPlayers(game, 99);
                Games.bridge(game, 0, 5, 6, length);
                Games.bridge(game, 0, 6, 7, length);
                Games.bridge(game, 0, 7, 5, 5);
            }, call);
        }
        int[][] edges = {{3, 7, 9}, {3, 6, 8}, {6, 7, 1}, {0, 1, 7}, {1, 2, 7}, {0, 2, 6}, {2, 3, 9}, {0, 7, 3}};
        int[] due = {9, 17, 9, 16, 23, 22, 31, 25};
        BridgeAuction game = new BridgeAuction();
        game.addPlayer(99);
        for (int i = 0; i < edges.length; i++) {
            Games.bridge(game, 0, edges[i][0], edges[i][1], edges[i][2]);
            due("after edge " + i, due[i], () -> call.on(game));
        }
    }

    @Sentence(promise = 38,
            text = "Returns the total length of a minimum spanning forest, found by Kruskal's algorithm.")
    @Sentence(promise = 38, text = "Returns the total length.")
    void forestLength() {
        forests(BridgeAuction::forestLength);
    }

    @Sentence(promise = 39, text = "Returns the total length of a minimum spanning forest, found by Prim's algorithm "
            + "from the lowest island of each component.")
    @Sentence(promise = 39, text = "Returns the total length.")
    void forestLengthByPrim() {
        forests(BridgeAuction::forestLengthByPrim);
    }
}
