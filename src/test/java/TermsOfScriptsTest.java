/** The document's "Terms" of scripts, changes and exceptions, and the limit of 512 calls. */
public final class TermsOfScriptsTest extends Suite {
    /** Each command with digits alone, so that no beginning of it is a script. */
    private static final String[] COMMANDS = {"player 7", "site 0 4 3", "suit 7 3", "tide 9", "bid 0 0 9",
        "bluff 1 0 9", "ferry 0 0", "drop 0 0", "settle 0"};

    public static void main(String[] arguments) {
        new TermsOfScriptsTest().run();
    }

    // ---- the limit of calls

    @Sentence(promise = 0, text = "An object is used for at most 512 calls after it has been made; what later calls "
            + "answer is free.")
    void fiveHundredAndTwelveCalls() {
        BridgeAuction settled = new BridgeAuction();
        settled.addPlayer(0);
        settled.addSite(0, 1, 1);
        for (int i = 0; i < 254; i++) {
            settled.placeBluff(0, 0, 99);
            settled.settle(0);
        }
        due("call 511", 254, settled::bluffTotal);
        due("call 512", 254, settled::settledTotal);
        BridgeAuction tides = new BridgeAuction();
        for (int i = 0; i < 503; i++) {
            tides.setTide(i % 10);
        }
        for (int left = 7; left >= 0; left--) {
            int due = left;
            due("change " + left, due, tides::undo);
        }
        due("call 512 after undo", 4, tides::tide);
        BridgeAuction scripts = new BridgeAuction();
        for (int i = 0; i < 73; i++) {
            Games.run(scripts, "tide " + i % 10);
        }
        due("call 512 after scripts", 2, scripts::tide);
    }

    // ---- scripts

    @Sentence(promise = 0, text = "A script is typed into a buffer of at most 60 characters and then run.")
    void sixtyCharacters() {
        String seven = "tide 1;tide 2;tide 3;tide 4;tide 5;tide 6;suit 0 1;";
        String[] lasts = {"tide 12", "player 7", "player 78", "settle 12"};
        Object[] due = {ARGUMENT, 8, 8, STATE};
        for (int i = 0; i < lasts.length; i++) {
            String script = seven + lasts[i];
            Start typed = game -> Games.typeAll(game, script);
            answers("script of " + script.length(), due[i], typed, BridgeAuction::runScript);
            Object sixtyFirst = script.length() < 60 ? (Object) (script.length() + 1) : STATE;
            answers("sign behind " + script.length(), sixtyFirst, typed, game -> game.type('0'));
        }
        Start full = game -> Games.typeAll(game, seven + "player 78");
        refusedAsIs("the sixty-first", STATE, full, game -> game.type(';'));
        Start refused = full.then(game -> Checks.answerOf(() -> game.type('0')));
        answers("is not in the script", 8, refused, BridgeAuction::runScript);
        answers("all sixty are", 78, refused.then(BridgeAuction::runScript), game -> game.money(0));
    }

    @Sentence(promise = 0, text = "It has the form below, where braces mean zero or more repetitions, brackets an "
            + "optional part, and a bar an alternative.")
    void formOfScripts() {
        String[] right = {"player 0", "player 9", "player 00", "player 09", "player 99", "site 6 4 1", "site 4 6 9",
            "suit 0 0", "suit 7 3", "tide 0", "tide 9", "bid 3 0 1", "bid 3 00 1", "bid 2 11 01", "bid 0 0 99",
            "bluff 3 0 1", "bluff 3 00 01", "bluff 2 11 99", "ferry 1 1", "ferry 1 01", "drop 1 1", "drop 1 01",
            "settle 1", "settle 01"};
        Start bid = game -> {
            Games.addPlayers(game, 99, 99, 99);
            Games.addSites(game, 12);
            game.placeBluff(1, 1, 9);
        };
        for (String script : right) {
            Start start = script.startsWith("site") ? Games.THREE
                    : script.startsWith("b") ? Games.FULL : bid;
            answers(script, 1, start, game -> Games.run(game, script));
        }
        for (int count = 1; count <= 8; count++) {
            String script = "tide 7;".repeat(count).substring(0, 7 * count - 1);
            answers("repeated", count, Games.EMPTY, game -> Games.run(game, script));
        }
        for (String command : COMMANDS) {
            malformed(command.toUpperCase(), 0);
            malformed(" " + command, 0);
            malformed(";" + command, 0);
            malformed(command.replaceFirst(" ", ""), command.indexOf(' '));
            malformed(command.replaceFirst(" ", "  "), command.indexOf(' ') + 1);
            malformed(command + " ", command.length());
            malformed(command + ";", command.length() + 1);
            malformed(command + ";;" + command, command.length() + 1);
            malformed(command + "; " + command, command.length() + 1);
            malformed(command + " ;" + command, command.length());
            malformed(command + "," + command, command.length());
            malformed(command + command, command.length());
        }
    }

    @Sentence(promise = 0, text = "The commands stand for the methods addPlayer, addSite, setSuit, setTide, placeBid, "
            + "placeBluff, playFerry, withdrawBid and settle with the numbers as arguments in the same order.")
    void commandsForMethods() {
        sameAs("player 42", Games.THREE, game -> game.addPlayer(42));
        sameAs("player 0", Games.THREE, game -> game.addPlayer(0));
        sameAs("player 99", Games.THREE, game -> game.addPlayer(99));
        sameAs("site 7 2 9", Games.BUSY, game -> game.addSite(7, 2, 9));
        sameAs("site 0 1 2", Games.BUSY, game -> game.addSite(0, 1, 2));
        sameAs("suit 7 0", Games.BUSY, game -> game.setSuit(7, 0));
        sameAs("suit 1 2", Games.BUSY, game -> game.setSuit(1, 2));
        sameAs("tide 9", Games.BUSY, game -> game.setTide(9));
        sameAs("tide 0", Games.BUSY, game -> game.setTide(0));
        sameAs("bid 1 2 3", Games.BUSY, game -> game.placeBid(1, 2, 3));
        sameAs("bid 2 11 98", Games.FULL, game -> game.placeBid(2, 11, 98));
        sameAs("bluff 1 2 3", Games.BUSY, game -> game.placeBluff(1, 2, 3));
        sameAs("bluff 2 11 98", Games.FULL, game -> game.placeBluff(2, 11, 98));
        Start bids = Games.FULL.then(game -> {
            game.placeBid(1, 2, 5);
            game.placeBid(2, 1, 6);
            game.placeBid(1, 1, 7);
            game.placeBid(2, 2, 8);
            game.setSuit(5, 2);
            game.placeBid(3, 11, 4);
            game.placeBid(3, 10, 4);
        });
        sameAs("ferry 1 2", bids, game -> game.playFerry(1, 2));
        sameAs("ferry 2 1", bids, game -> game.playFerry(2, 1));
        sameAs("ferry 3 11", bids, game -> game.playFerry(3, 11));
        sameAs("drop 1 2", bids, game -> game.withdrawBid(1, 2));
        sameAs("drop 2 01", bids, game -> game.withdrawBid(2, 1));
        sameAs("drop 3 10", bids, game -> game.withdrawBid(3, 10));
        sameAs("settle 1", bids, game -> game.settle(1));
        sameAs("settle 02", bids, game -> game.settle(2));
        sameAs("settle 11", bids, game -> game.settle(11));
    }

    private void sameAs(String script, Start start, Deed deed) {
        Start scripted = start.then(game -> Games.run(game, script));
        Start called = start.then(game -> deed.on(game));
        for (Look look : Look.values()) {
            due(script + " by " + look, look.at(called.make()), () -> look.at(scripted.make()));
        }
        due(script + " changes something", false, () -> Sight.of(start.make()).equals(Sight.of(scripted.make())));
    }

    @Sentence(promise = 0,
            text = "The commands are executed in order, and either all of them take effect or none.")
    void inOrderAllOrNone() {
        answers("a player before the bid", 4, Games.EMPTY,
                game -> Games.run(game, "player 9;site 0 4 1;bid 0 0 9;settle 0"));
        failing("site 0 4 1;bid 0 0 9;player 9", 1, Games.EMPTY);
        Start tides = game -> Games.run(game, "tide 3;tide 9;tide 4");
        answers("the last one counts", 4, tides, BridgeAuction::tide);
        for (int i = 0; i < 8; i++) {
            StringBuilder script = new StringBuilder("tide 1;tide 2;tide 3;tide 4;tide 5;tide 6;tide 7;tide 8");
            script.replace(7 * i, 7 * i + 6, "suit 8 0");
            failing(script.toString(), i, Games.BUSY);
        }
        failing("settle 1;site 0 6 1;suit 0 1;tide 9;bid 1 2 4;settle 0", 5,
                Games.THREE.then(game -> game.placeBid(0, 1, 20)));
        failing("player 9;player 9", 1, Games.THREE);
        failing("bluff 0 2 5;drop 3 1;bid 3 2 6;settle 2;ferry 1 0", 4, Games.BUSY);
    }

    @Sentence(promise = 0, text = "The error position of a script that does not have this form is the index of the "
            + "first character that cannot continue any script of this form, or the length of the script if every "
            + "character can and the end comes too early.")
    void positionsOfErrors() {
        malformed("", 0);
        for (String command : COMMANDS) {
            for (int end = 0; end < command.length(); end++) {
                String beginning = command.substring(0, end);
                malformed(beginning, end);
                malformed(beginning + "~", end);
                malformed("tide 1;" + beginning, 7 + end);
                malformed("player 12;" + beginning + "~" + command, 10 + end);
            }
            malformed(command + "~", command.length());
            malformed(command + ";", command.length() + 1);
            malformed(command + ";~", command.length() + 1);
        }
        firstSigns();
        signsOfNumbers();
        shorterThanTheScriptBefore();
        malformed("x".repeat(60), 0);
        malformed("tide 1;tide 2;tide 3;tide 4;tide 5;tide 6;suit 0 1;player 7;", 60);
        malformed("tide 1;tide 2;tide 3;tide 4;tide 5;tide 6;suit 0 1;player 7~", 59);
        malformed("tide 1;tide 2;tide 3;tide 4;tide 5;tide 6;tide 7;bluff 0 11 ", 60);
    }

    private void firstSigns() {
        for (char sign = 32; sign <= 126; sign++) {
            malformed("" + sign, "pstbfd".indexOf(sign) >= 0 ? 1 : 0);
            malformed("s" + sign, "eiu".indexOf(sign) >= 0 ? 2 : 1);
            malformed("b" + sign, "il".indexOf(sign) >= 0 ? 2 : 1);
            malformed("si" + sign, sign == 't' ? 3 : 2);
            malformed("su" + sign, sign == 'i' ? 3 : 2);
            malformed("tide 1;" + sign, "pstbfd".indexOf(sign) >= 0 ? 8 : 7);
        }
    }

    private void signsOfNumbers() {
        for (char sign = 32; sign <= 126; sign++) {
            boolean digit = "0123456789".indexOf(sign) >= 0;
            if (!digit) {
                malformed("tide " + sign, 5);
                malformed("player " + sign, 7);
                malformed("bid 0 " + sign, 6);
                malformed("site 0 1 " + sign, 9);
            }
            if (sign != ';') {
                malformed("tide 1" + sign, 6);
                malformed("site 0 1 2" + sign, 10);
                malformed("suit 0 1" + sign, 8);
                malformed("player 12" + sign, 9);
                malformed("settle 12" + sign, 9);
                malformed("bid 0 12 34" + sign, 11);
                malformed("bluff 0 12 34" + sign, 13);
                malformed("ferry 0 12" + sign, 10);
                malformed("drop 0 12" + sign, 9);
            }
            if (sign != ';' && !digit) {
                malformed("player 1" + sign, 8);
                malformed("settle 1" + sign, 8);
                malformed("bid 0 12 3" + sign, 10);
            }
            if (sign != ' ') {
                malformed("bid 1" + sign, 5);
                malformed("bluff 1" + sign, 7);
                malformed("ferry 1" + sign, 7);
                malformed("drop 1" + sign, 6);
                malformed("suit 1" + sign, 6);
                malformed("site 1" + sign, 6);
                malformed("site 1 1" + sign, 8);
                malformed("bid 1 12" + sign, 8);
            }
            malformed("bid 1 1" + sign, digit || sign == ' ' ? 8 : 7);
        }
    }

    private void shorterThanTheScriptBefore() {
        for (String command : COMMANDS) {
            for (int end = 0; end < command.length(); end++) {
                String beginning = command.substring(0, end);
                malformed(game -> Games.runInVain(game, command + ";" + command + "~"), beginning, end);
                malformed(game -> Games.runInVain(game, "tide 5;" + command + "~"), "tide 4;" + beginning, 7 + end);
            }
            malformed(game -> Games.runInVain(game, command + ";" + command + "~"), command + ";",
                    command.length() + 1);
        }
    }

    private void malformed(String script, int position) {
        malformed(Games.EMPTY, script, position);
    }

    private void malformed(Start start, String script, int position) {
        BridgeAuction game = start.make();
        Games.typeAll(game, script);
        due("form of '" + script + "'", ARGUMENT, game::runScript);
        due("position in '" + script + "'", position, game::errorPosition);
    }

    // ---- changes

    @Sentence(promise = 0, text = "A change is a call of addPlayer, addSite, setSuit, setTide, placeBid, placeBluff, "
            + "withdrawBid, playFerry, settle or runScript that returns normally, even if the state is the same "
            + "afterwards.")
    void changes() {
        isChange("addPlayer", Games.THREE, game -> game.addPlayer(0));
        isChange("addSite", Games.THREE, game -> game.addSite(6, 7, 1));
        isChange("setSuit", Games.THREE, game -> game.setSuit(6, 3));
        isChange("setSuit to the same", Games.THREE, game -> game.setSuit(6, 2));
        isChange("setTide", Games.THREE, game -> game.setTide(1));
        isChange("setTide to the same", Games.THREE, game -> game.setTide(0));
        isChange("placeBid", Games.THREE, game -> game.placeBid(0, 0, 1));
        isChange("placeBluff", Games.THREE, game -> game.placeBluff(0, 0, 1));
        Start bid = Games.THREE.then(game -> game.placeBid(0, 0, 1));
        isChange("withdrawBid", bid, game -> game.withdrawBid(0, 0));
        isChange("playFerry", bid, game -> game.playFerry(0, 0));
        isChange("settle without building", bid, game -> game.settle(0));
        isChange("settle", bid.then(game -> game.placeBid(0, 0, 9)), game -> game.settle(0));
        isChange("runScript", Games.THREE, game -> Games.run(game, "tide 4;player 9"));
        isChange("runScript with the same state", Games.THREE, game -> Games.run(game, "tide 4;tide 0"));
        isNoChange("type", game -> game.type('t'));
        isNoChange("renderSite", game -> game.renderSite(0));
        isNoChange("save", BridgeAuction::save);
        isNoChange("isConsistent", BridgeAuction::isConsistent);
        isNoChange("a refused setTide", game -> Checks.answerOf(() -> game.setTide(10)));
        isNoChange("a refused settle", game -> Checks.answerOf(() -> game.settle(0)));
        isNoChange("a failing script", game -> Checks.answerOf(() -> Games.run(game, "tide 4;settle 0")));
        isNoChange("a malformed script", game -> Checks.answerOf(() -> Games.run(game, "tide 4;tide")));
    }

    private void isChange(String what, Start start, Deed change) {
        Start changed = start.then(game -> change.on(game));
        int before = Games.undoAll(start.make());
        answers("after " + what, Math.min(before + 1, 8), changed, Games::undoAll);
        Start back = changed.then(BridgeAuction::undo);
        due("undone " + what, Sight.of(start.make()), () -> Sight.of(back.make()));
        due("all before " + what, Math.min(before, 7), () -> Games.undoAll(back.make()));
    }

    private void isNoChange(String what, Deed deed) {
        Start done = Games.THREE.then(game -> deed.on(game));
        answers("after " + what, Games.undoAll(Games.THREE.make()), done, Games::undoAll);
    }

    @Sentence(promise = 0, text = "The latest 8 changes can be undone, the latest one first.")
    void latestEightChanges() {
        for (int n = 0; n <= 19; n++) {
            int count = n;
            Start tides = game -> {
                for (int i = 1; i <= count; i++) {
                    game.setTide(i % 10);
                }
            };
            BridgeAuction game = tides.make();
            for (int i = 1; i <= Math.min(n, 8); i++) {
                due("left of " + n, Math.min(n, 8) - i, game::undo);
                due("level after " + n + " less " + i, (n - i) % 10, game::tide);
            }
            due("more of " + n, ELEMENT, game::undo);
            due("level at the end of " + n, Math.max(n - 8, 0) % 10, game::tide);
        }
        BridgeAuction game = new BridgeAuction();
        for (int level = 1; level <= 9; level++) {
            game.setTide(level);
        }
        due("undone", 7, game::undo);
        due("and again", 6, game::undo);
        game.setSuit(0, 1);
        due("a change behind them first", 6, game::undo);
        due("suit", 0, () -> game.suit(0));
        due("then the one before them", 5, game::undo);
        due("level", 6, game::tide);
        due("all that are left", 5, () -> Games.undoAll(game));
        due("the first is out of reach", 1, game::tide);
    }

    @Sentence(promise = 0, text = "Undo and the snapshot cover everything except the script buffer, the error "
            + "position, the index of the failed command, the output text and the snapshot itself.")
    void coveredByUndoAndSnapshot() {
        covered("addPlayer", Games.THREE, game -> game.addPlayer(9));
        covered("addPlayer with 0", Games.THREE, game -> game.addPlayer(0));
        covered("addSite", Games.THREE, game -> game.addSite(6, 7, 8));
        covered("setSuit of a lone island", Games.BUSY, game -> game.setSuit(7, 0));
        covered("setSuit at a bridge", Games.BUSY, game -> game.setSuit(4, 1));
        covered("setTide", Games.BUSY, game -> game.setTide(9));
        covered("placeBid", Games.BUSY, game -> game.placeBid(0, 2, 9));
        covered("placeBid for a bluff", Games.BUSY, game -> game.placeBid(3, 1, 21));
        covered("placeBluff", Games.BUSY, game -> game.placeBluff(0, 2, 9));
        covered("placeBluff for a bid", Games.BUSY, game -> game.placeBluff(1, 1, 21));
        covered("withdrawBid", Games.BUSY, game -> game.withdrawBid(3, 1));
        covered("playFerry", Games.THREE.then(game -> game.placeBid(0, 0, 5)), game -> game.playFerry(0, 0));
        covered("settle of a cheap bid", Games.BUSY, game -> game.settle(1));
        covered("settle of a bluff", Games.BUSY.then(game -> game.placeBluff(0, 2, 1)), game -> game.settle(2));
        covered("settle that builds", Games.BUSY.then(game -> game.placeBid(0, 2, 9)), game -> game.settle(2));
        covered("runScript", Games.BUSY, game -> Games.run(game,
                "settle 1;bluff 0 1 9;ferry 0 1;settle 1;bid 1 2 4;settle 2"));
        leftByBoth();
    }

    private void covered(String what, Start start, Start change) {
        String before = Sight.of(start.make());
        Start undone = start.then(change).then(BridgeAuction::undo);
        due("undone " + what, before, () -> Sight.of(undone.make()));
        Start restored = start.then(BridgeAuction::save).then(change).then(BridgeAuction::restore);
        due("restored from before " + what, before, () -> Sight.of(restored.make()));
        Start changed = start.then(change);
        due("changed by " + what, false, () -> before.equals(Sight.of(changed.make())));
        Start kept = changed.then(BridgeAuction::save).then(Games::undoAll).then(BridgeAuction::restore);
        due("restored from behind " + what, Sight.of(changed.make()), () -> Sight.of(kept.make()));
    }

    private void leftByBoth() {
        Start[] ways = {BridgeAuction::undo, BridgeAuction::restore};
        for (Start way : ways) {
            BridgeAuction game = Games.THREE.make();
            game.save();
            game.setTide(3);
            Games.runInVain(game, "tide x");
            Games.runInVain(game, "tide 1;settle 9");
            game.renderSite(1);
            Games.typeAll(game, "tide ");
            way.on(game);
            due("level", 0, game::tide);
            due("error position", 5, game::errorPosition);
            due("failed command", 1, game::failedCommand);
            due("output text", "4-5/9", () -> Sight.outputOf(game));
            due("script buffer", 6, () -> game.type('8'));
            due("script", 1, game::runScript);
            due("level of the script", 8, game::tide);
            due("snapshot", 3, game::restore);
            due("level of the snapshot", 0, game::tide);
        }
        BridgeAuction saved = Games.THREE.make();
        saved.setTide(4);
        saved.save();
        saved.undo();
        due("undone below the snapshot", 0, saved::tide);
        due("the snapshot is not undone", 3, saved::restore);
        due("its level", 4, saved::tide);
    }

    // ---- exceptions

    @Sentence(promise = 0,
            text = "A method that throws an exception changes nothing unless its description says otherwise.")
    void refusedCallsChangeNothing() {
        Start start = Games.BUSY;
        refused("addPlayer", STATE, start, game -> game.addPlayer(9));
        refused("addSite", UNSUPPORTED, start, game -> game.addSite(4, 0, 9));
        refused("setSuit", ARGUMENT, start, game -> game.setSuit(0, 4));
        refused("setTide", ARGUMENT, start, game -> game.setTide(10));
        refused("placeBid", UNSUPPORTED, start, game -> game.placeBid(0, 1, 48));
        refused("placeBluff", UNSUPPORTED, start, game -> game.placeBluff(0, 1, 20));
        refused("withdrawBid", STATE, start, game -> game.withdrawBid(1, 1));
        refused("playFerry", STATE, start, game -> game.playFerry(3, 1));
        refused("settle", STATE, start, game -> game.settle(0));
        refused("settle without bids", ELEMENT, start, game -> game.settle(2));
        refused("wouldBuild", ELEMENT, start, game -> game.wouldBuild(2));
        refused("renderSite", INDEX, start, game -> game.renderSite(3));
        refused("type", ARGUMENT, start, game -> game.type((char) 127));
        refusedAsIs("undo", ELEMENT, Games.EMPTY, BridgeAuction::undo);
        refusedAsIs("restore", STATE, start, BridgeAuction::restore);
        refusedAsIs("errorPosition", ELEMENT, start, BridgeAuction::errorPosition);
        refusedAsIs("failedCommand", ELEMENT, start, BridgeAuction::failedCommand);
        Start nearlyAll = Games.THREE.then(game -> game.placeBid(0, 0, 40));
        refused("placeBid above the money", UNSUPPORTED, nearlyAll, game -> game.placeBid(0, 0, 51));
    }
}
