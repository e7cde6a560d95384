/** Promises 47 and 48: the output text. */
public final class OutputTest extends Suite {
    private static final Start LONGEST = game -> {
        Games.addPlayers(game, 99, 99, 99, 99);
        game.addSite(7, 6, 9);
        for (int player = 3; player >= 0; player--) {
            game.placeBluff(player, 0, 99 - player);
        }
        game.playFerry(3, 0);
        game.addSite(2, 1, 1);
    };

    public static void main(String[] arguments) {
        new OutputTest().run();
    }

    private void rendered(String due, Start start, int site) {
        BridgeAuction game = start.make();
        due("length of " + due, due.length(), () -> game.renderSite(site));
        due("text", due, () -> Sight.outputOf(game));
    }

    // ---- promise 47: renderSite

    @Sentence(promise = 47, text = "Replaces the output text by a description of a site: the lower island, \"-\", the "
            + "higher island, \"/\" and the length; then, if the site is built, \"=\" and the index of the builder; "
            + "otherwise, for each bid in the order of the players' indices, a space, the index of the player, \":\" "
            + "and the amount, \"?\" if the bid is a bluff, and \"*\" if the ferry of the player lies on the site.")
    void renderSite() {
        Start site = Games.FULL;
        rendered("0-4/3", site, 0);
        rendered("4-7/9", site, 11);
        rendered("4-7/9", site.then(game -> game.setTide(9)), 11);
        for (int i = 0; i < 4; i++) {
            int player = i;
            rendered("0-4/3=" + i, site.then(game -> Games.build(game, player, 0)), 0);
            rendered("0-4/3 " + i + ":1", site.then(game -> game.placeBid(player, 0, 1)), 0);
            rendered("0-4/3 " + i + ":9", site.then(game -> game.placeBid(player, 0, 9)), 0);
            rendered("0-4/3 " + i + ":10", site.then(game -> game.placeBid(player, 0, 10)), 0);
            rendered("0-4/3 " + i + ":99?", site.then(game -> game.placeBluff(player, 0, 99)), 0);
            Start ferry = site.then(game -> {
                game.setSuit(0, player);
                game.placeBid(player, 0, 2);
                game.playFerry(player, 0);
            });
            rendered("0-4/3 " + i + ":2*", ferry, 0);
            rendered("0-4/3 " + i + ":5?*", ferry.then(game -> game.placeBluff(player, 0, 5)), 0);
        }
        Start bids = site.then(game -> {
            game.placeBid(2, 0, 12);
            game.placeBluff(0, 0, 13);
            game.playFerry(0, 0);
            game.placeBid(3, 0, 14);
        });
        rendered("0-4/3 0:13?* 2:12 3:14", bids, 0);
        rendered("0-4/3", bids.then(game -> game.settle(0)), 0);
        rendered("0-4/3 2:12 3:14", site.then(game -> {
            game.placeBid(2, 0, 12);
            game.placeBid(3, 0, 14);
        }), 0);
        rendered("6-7/9 0:99? 1:98? 2:97? 3:96?*", LONGEST, 0);
        rendered("1-2/1", LONGEST.then(game -> game.renderSite(0)), 1);
        rendered("6-7/9 0:99? 1:98? 2:97? 3:96?*", LONGEST.then(game -> game.renderSite(1)), 0);
        Start other = bids.then(game -> game.renderSite(0)).then(game -> game.settle(0));
        answers("only renderSite replaces it", "0-4/3 0:13?* 2:12 3:14", other, Sight::outputOf);
    }

    @Sentence(promise = 47, text = "Examples are \"0-3/5=2\" and \"0-3/5 0:7 1:9?*\".")
    void examples() {
        Start site = game -> {
            Games.addPlayers(game, 20, 20, 20);
            game.addSite(3, 0, 5);
        };
        rendered("0-3/5=2", site.then(game -> Games.build(game, 2, 0)), 0);
        rendered("0-3/5 0:7 1:9?*", site.then(game -> {
            game.placeBid(0, 0, 7);
            game.placeBluff(1, 0, 9);
            game.setSuit(3, 1);
            game.playFerry(1, 0);
        }), 0);
    }

    @Sentence(promise = 47, text = "Returns the length of the output text.")
    void lengthOfTheText() {
        answers("shortest", 5, LONGEST, game -> game.renderSite(1));
        answers("longest", 30, LONGEST, game -> game.renderSite(0));
        answers("built", 7, Games.BUSY, game -> game.renderSite(0));
        answers("shorter than before", 5, LONGEST.then(game -> game.renderSite(0)), game -> game.renderSite(1));
        answers("the same again", 30, LONGEST.then(game -> game.renderSite(0)), game -> game.renderSite(0));
    }

    @Sentence(promise = 47, text = "Throws `IndexOutOfBoundsException` if there is no such site")
    void renderNoSite() {
        noSuchSite(BridgeAuction::renderSite);
        Start text = LONGEST.then(game -> {
            game.renderSite(0);
            Checks.answerOf(() -> game.renderSite(2));
        });
        answers("keeps the text", "6-7/9 0:99? 1:98? 2:97? 3:96?*", text, Sight::outputOf);
    }

    // ---- promise 48: outputAt

    @Sentence(promise = 48, text = "Returns a character of the output text, which is empty initially.")
    @Sentence(promise = 48, text = "Returns the character.")
    void outputAt() {
        answers("initially", "", Games.EMPTY, Sight::outputOf);
        answers("with sites and bids", "", Games.BUSY, Sight::outputOf);
        String longest = "6-7/9 0:99? 1:98? 2:97? 3:96?*";
        Start text = LONGEST.then(game -> game.renderSite(0));
        for (int i = 0; i < longest.length(); i++) {
            int index = i;
            answers("character " + i, longest.charAt(i), text, game -> game.outputAt(index));
        }
    }

    @Sentence(promise = 48, text = "Throws `IndexOutOfBoundsException` if there is no such index")
    void outputAtNoIndex() {
        Start built = Games.BUSY.then(game -> game.renderSite(0));
        Start[] starts = {Games.EMPTY, Games.BUSY, LONGEST.then(game -> game.renderSite(1)), built,
            LONGEST.then(game -> game.renderSite(0))};
        int[] lengths = {0, 0, 5, 7, 30};
        for (int i = 0; i < starts.length; i++) {
            int length = lengths[i];
            Start start = starts[i];
            for (int wrong : new int[] {-1, length, length + 1, 256, 65536, Integer.MIN_VALUE, Integer.MAX_VALUE}) {
                refusedAsIs("index " + wrong + " of " + length, INDEX, start, game -> game.outputAt(wrong));
            }
            if (length > 0) {
                answers("first of " + length, i == 4 ? '6' : i == 3 ? '0' : '1', start, game -> game.outputAt(0));
                char last = i == 4 ? '*' : i == 3 ? '0' : '1';
                answers("last of " + length, last, start, game -> game.outputAt(length - 1));
            }
        }
        Start shorter = LONGEST.then(game -> {
            game.renderSite(0);
            game.renderSite(1);
        });
        refusedAsIs("behind a shorter text", INDEX, shorter, game -> game.outputAt(5));
    }
}
