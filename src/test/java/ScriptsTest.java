/** Promises 49 to 52: the script buffer, scripts, and what is told of those that were refused. */
public final class ScriptsTest extends Suite {
    private static final String SIXTY = "tide 1;tide 2;tide 3;tide 4;tide 5;tide 6;suit 0 1;player 12";

    public static void main(String[] arguments) {
        new ScriptsTest().run();
    }

    private static Start typed(String text) {
        return game -> Games.typeAll(game, text);
    }

    // ---- promise 49: type

    @Sentence(promise = 49, text = "Appends a character to the script buffer.")
    void appendsACharacter() {
        answers("in the order of typing", 8, typed(SIXTY), BridgeAuction::runScript);
        answers("to what is there", 1, typed("tide ").then(typed("3")), BridgeAuction::runScript);
        for (char sign = 32; sign <= 126; sign++) {
            char character = sign;
            boolean digit = sign >= '0' && sign <= '9';
            answers("sign " + sign, digit ? 1 : ARGUMENT, typed("tide " + character), BridgeAuction::runScript);
        }
        Start between = typed("ti").then(game -> {
            Games.THREE.on(game);
            game.renderSite(0);
            game.save();
            game.undo();
            game.restore();
        }).then(typed("de 4"));
        answers("other calls leave it", 1, between, BridgeAuction::runScript);
    }

    @Sentence(promise = 49, text = "Returns the length of the script buffer.")
    void lengthOfTheBuffer() {
        BridgeAuction game = new BridgeAuction();
        for (int i = 1; i <= 60; i++) {
            char sign = (char) (66 + i);
            due("sign " + i, i, () -> game.type(sign));
        }
        Checks.answerOf(game::runScript);
        due("first sign after a script", 1, () -> game.type('x'));
    }

    @Sentence(promise = 49, text = "Throws `IllegalArgumentException` if the character code is not between 32 and 126")
    void typeOfNoCharacter() {
        for (int code : new int[] {0, 1, 9, 10, 31, 127, 128, 255, 256, 256 + 65, 0x7fff, 0x8000, 0x8041, 0xffff}) {
            char wrong = (char) code;
            refusedAsIs("code " + code, ARGUMENT, Games.BUSY, game -> game.type(wrong));
            refused("code " + code + " behind others", ARGUMENT, Games.BUSY, game -> game.type(wrong));
            refusedAsIs("code " + code + " in the end", ARGUMENT, typed("tide ").then(typed("1")),
                    game -> game.type(wrong));
        }
        for (int code : new int[] {32, 33, 65, 125, 126}) {
            char right = (char) code;
            answers("code " + code, 1, Games.EMPTY, game -> game.type(right));
            answers("code " + code + " as the last", 60, typed("x".repeat(59)), game -> game.type(right));
        }
    }

    @Sentence(promise = 49, text = "Throws `IllegalStateException` if the script buffer has 60 characters")
    void typeIntoAFullBuffer() {
        for (char sign : new char[] {32, '0', ';', 126}) {
            answers("the fifty-ninth", 59, typed(SIXTY.substring(0, 58)), game -> game.type(sign));
            answers("the sixtieth", 60, typed(SIXTY.substring(0, 59)), game -> game.type(sign));
            refusedAsIs("the sixty-first", STATE, typed(SIXTY), game -> game.type(sign));
            Start twice = typed(SIXTY).then(game -> Checks.answerOf(() -> game.type(sign)));
            refusedAsIs("and again", STATE, twice, game -> game.type(sign));
            answers("when it was run", 1, typed(SIXTY).then(BridgeAuction::runScript), game -> game.type(sign));
        }
    }

    // ---- promise 50: runScript

    @Sentence(promise = 50, text = "Runs the script in the script buffer.")
    void runScript() {
        BridgeAuction game = new BridgeAuction();
        due("players", 3, () -> Games.run(game, "player 5;player 60;player 07"));
        due("sites", 2, () -> Games.run(game, "site 5 2 9;site 0 4 1"));
        due("bids", 4, () -> Games.run(game, "bid 0 1 5;bluff 1 1 9;ferry 0 1;drop 1 1"));
        due("bid left", 5, () -> game.bidAmount(0, 1));
        due("bid dropped", 1, () -> game.bidCount(1));
        due("ferry", 0, () -> game.ferryOwner(1));
        due("bluff", 1, () -> Games.run(game, "bluff 2 00 42"));
        due("its amount", 42, () -> game.bidAmount(2, 0));
        due("suit, tide, settle", 4, () -> Games.run(game, "suit 0 3;tide 4;settle 1;settle 00"));
        due("suit now", 3, () -> game.suit(0));
        due("tide now", 4, game::tide);
        due("builder", 0, () -> game.builder(1));
        due("bluff paid", 2, () -> game.money(2));
        due("bid paid", 0, () -> game.money(0));
        due("settled", 2, game::settledTotal);
        due("one change each", 5, () -> Games.undoAll(game));
        due("all undone", 0, game::playerCount);
    }

    @Sentence(promise = 50, text = "The buffer is empty afterwards, also if an exception is thrown.")
    void bufferIsEmptyAfterwards() {
        String[] scripts = {"tide 1", SIXTY, "", "tide x", "x".repeat(60), "settle 0", "tide 1;settle 99",
            "tide 1;tide 2;tide 3;tide 4;tide 5;tide 6;suit 0 1;settle 12"};
        for (String script : scripts) {
            Start run = typed(script).then(game -> Checks.answerOf(game::runScript));
            answers("length after '" + script + "'", 1, run, game -> game.type('t'));
            answers("next after '" + script + "'", 1, run, game -> Games.run(game, "suit 7 0"));
            Start again = run.then(game -> Checks.answerOf(game::runScript));
            answers("empty after '" + script + "'", ARGUMENT, run, BridgeAuction::runScript);
            answers("position after '" + script + "'", 0, again, BridgeAuction::errorPosition);
        }
        Start longer = game -> Games.run(game, "player 12;player 34;tide 5");
        answers("nothing is left of a longer script", 1, longer, game -> Games.run(game, "player 5"));
        answers("nor a second digit", 5, longer.then(game -> Games.run(game, "player 5")), game -> game.money(2));
        answers("nor a further command", 2, longer, game -> Games.run(game, "player 67;player 8"));
        answers("nor its second digit", 8, longer.then(game -> Games.run(game, "player 67;player 8")),
                game -> game.money(3));
    }

    @Sentence(promise = 50, text = "Returns the number of commands.")
    void numberOfCommands() {
        for (int i = 1; i <= 8; i++) {
            String script = "suit 1 2;".repeat(Math.min(i, 6)).substring(0, 9 * Math.min(i, 6) - 1);
            answers(script, Math.min(i, 6), typed(script), BridgeAuction::runScript);
            String tides = "tide 9;".repeat(i).substring(0, 7 * i - 1);
            answers(tides, i, typed(tides), BridgeAuction::runScript);
        }
        answers("sixty characters", 8, typed(SIXTY), BridgeAuction::runScript);
        answers("longest commands", 4, Games.FULL.then(typed("bid 0 00 10;bid 0 01 11;bluff 0 02 12;bid 3 11 99")),
                BridgeAuction::runScript);
    }

    @Sentence(promise = 50, text = "Throws `IllegalArgumentException` if the script does not have the required form; "
            + "errorPosition then returns its error position")
    void runScriptOfAnotherForm() {
        String[] scripts = {"", " ", ";", "t", "tide", "tide ", "tide 10", "tide 1;", "tide 1 ", "player 100",
            "player -1", "bid 0 0", "bid 0 0 100", "bid 00 0 1", "bluff 0 100 1", "ferry 0 0 0", "drop 0", "settle",
            "site 0 1 10", "suit 0", "TIDE 1", "tide 1;tide", "tide 1;;tide 2", "settle 0;x", "save", "undo"};
        int[] positions = {0, 0, 0, 1, 4, 5, 6, 7, 6, 9, 7, 7, 10, 5, 10, 9, 6, 6, 10, 6, 0, 11, 7, 9, 1, 0};
        for (int i = 0; i < scripts.length; i++) {
            refusedScript(scripts[i], Games.BUSY, ARGUMENT, positions[i], ELEMENT);
        }
    }

    @Sentence(promise = 50, text = "Throws `IllegalStateException` if the method for a command throws an exception; no "
            + "command takes effect, and failedCommand then returns the index of that command")
    void runScriptWithAFailingCommand() {
        Start table = Games.THREE.then(game -> {
            Games.build(game, 0, 2);
            game.placeBluff(1, 1, 40);
            game.playFerry(1, 1);
        });
        failing("player 5;player 5", 1, table);
        failing("site 8 0 1", 0, table);
        failing("site 0 9 1", 0, table);
        failing("site 0 0 1", 0, table);
        failing("site 0 1 0", 0, table);
        failing("site 4 0 5", 0, table);
        failing("tide 1;site 6 4 5", 1, Games.FULL);
        failing("suit 8 0", 0, table);
        failing("suit 0 4", 0, table);
        failing("tide 3;suit 0 9", 1, table);
        failing("bid 3 0 1", 0, table);
        failing("bid 0 3 1", 0, table);
        failing("bid 0 0 0", 0, table);
        failing("bid 0 0 00", 0, table);
        failing("bid 0 2 1", 0, table);
        failing("bid 0 0 99", 0, table);
        failing("bid 0 0 5;bid 1 0 5", 1, table);
        failing("bluff 3 0 1", 0, table);
        failing("bluff 0 3 1", 0, table);
        failing("bluff 0 0 00", 0, table);
        failing("bluff 0 2 9", 0, table);
        failing("bluff 0 0 7;bluff 0 0 7", 1, table);
        failing("ferry 3 1", 0, table);
        failing("ferry 0 3", 0, table);
        failing("ferry 0 0", 0, table);
        failing("bid 0 1 41;ferry 0 1", 1, table);
        failing("bid 0 0 5;ferry 0 0;ferry 0 0", 2, table);
        failing("bid 2 0 4;suit 0 0;ferry 2 0", 2, table);
        failing("drop 3 1", 0, table);
        failing("drop 0 3", 0, table);
        failing("drop 0 1", 0, table);
        failing("drop 1 1", 0, table);
        failing("settle 3", 0, table);
        failing("settle 99", 0, table);
        failing("settle 2", 0, table);
        failing("settle 0", 0, table);
        failing("tide 5;bid 0 0 8;settle 0;settle 0;tide 1", 3, table);
        failing("tide 5;bid 0 0 8;settle 0;player 1;player 1", 4, table);
        failing("tide 1;tide 2;tide 3;tide 4;tide 5;tide 6;suit 0 1;settle 12", 7, table);
    }

    // ---- promises 51 and 52: errorPosition, failedCommand

    @Sentence(promise = 51,
            text = "Returns the error position of the latest script that did not have the required form.")
    @Sentence(promise = 51, text = "Returns the error position.")
    void errorPosition() {
        BridgeAuction game = Games.THREE.make();
        Games.runInVain(game, "tide x");
        due("of the first", 5, game::errorPosition);
        due("asked again", 5, game::errorPosition);
        Games.runInVain(game, "tide 1;settle 0");
        due("a failing script keeps it", 5, game::errorPosition);
        Games.run(game, "tide 1");
        due("a right script keeps it", 5, game::errorPosition);
        game.save();
        game.undo();
        game.restore();
        due("undo and restore keep it", 5, game::errorPosition);
        Games.runInVain(game, "tide 1;x");
        due("of the latest", 7, game::errorPosition);
        Games.runInVain(game, "");
        due("of an empty one", 0, game::errorPosition);
        Games.runInVain(game, SIXTY.substring(0, 50) + ";tide 123;");
        due("in the last characters", 57, game::errorPosition);
        Games.runInVain(game, "tide 1;tide 2;tide 3;tide 4;tide 5;tide 6;suit 0 1;player 7;");
        due("behind the last of sixty", 60, game::errorPosition);
    }

    @Sentence(promise = 51, text = "Throws `NoSuchElementException` if there was no such script")
    void noErrorPosition() {
        refusedAsIs("no script", ELEMENT, Games.EMPTY, BridgeAuction::errorPosition);
        refusedAsIs("typed alone", ELEMENT, typed("x"), BridgeAuction::errorPosition);
        refusedAsIs("a right script", ELEMENT, typed(SIXTY).then(BridgeAuction::runScript),
                BridgeAuction::errorPosition);
        refusedAsIs("a failing script", ELEMENT, game -> Games.runInVain(game, "settle 0"),
                BridgeAuction::errorPosition);
    }

    @Sentence(promise = 52,
            text = "Returns the index of the command that failed in the latest script with a failed command.")
    void failedCommand() {
        BridgeAuction game = Games.THREE.make();
        Games.runInVain(game, "tide 1;settle 0");
        due("of the first", 1, game::failedCommand);
        due("asked again", 1, game::failedCommand);
        Games.runInVain(game, "tide x");
        due("a malformed script keeps it", 1, game::failedCommand);
        Games.run(game, "tide 1");
        due("a right script keeps it", 1, game::failedCommand);
        game.save();
        game.undo();
        game.restore();
        due("undo and restore keep it", 1, game::failedCommand);
        Games.runInVain(game, "settle 0;tide 1");
        due("of the latest", 0, game::failedCommand);
        Games.runInVain(game, "tide 1;tide 2;settle 0;settle 0");
        due("the first that fails", 2, game::failedCommand);
    }

    @Sentence(promise = 52, text = "Returns the index of the command, counted from 0.")
    void indexOfTheFailedCommand() {
        for (int i = 0; i < 8; i++) {
            int index = i;
            String script = "tide 3;".repeat(i) + "suit 9 9" + ";tide 3".repeat(7 - i);
            answers(script, index, game -> Games.runInVain(game, script), BridgeAuction::failedCommand);
        }
    }

    @Sentence(promise = 52, text = "Throws `NoSuchElementException` if there was no such script")
    void noFailedCommand() {
        refusedAsIs("no script", ELEMENT, Games.EMPTY, BridgeAuction::failedCommand);
        refusedAsIs("a right script", ELEMENT, typed(SIXTY).then(BridgeAuction::runScript),
                BridgeAuction::failedCommand);
        refusedAsIs("a malformed script", ELEMENT, game -> Games.runInVain(game, "settle 0;x"),
                BridgeAuction::failedCommand);
        refusedAsIs("a refused call", ELEMENT, game -> Checks.answerOf(() -> game.settle(0)),
                BridgeAuction::failedCommand);
    }
}
