/** Promises 53 to 55: undo and the snapshot. */
public final class ChangesTest extends Suite {
    public static void main(String[] arguments) {
        new ChangesTest().run();
    }

    // ---- promise 53: undo

    @Sentence(promise = 53, text = "Undoes the latest change that has not been undone.")
    void undo() {
        Start[] steps = {game -> game.addPlayer(30), game -> game.addPlayer(40), game -> game.addSite(0, 4, 5),
            game -> game.addSite(1, 4, 5), game -> game.setSuit(1, 3), game -> game.setTide(3),
            game -> game.placeBid(0, 0, 9), game -> game.placeBluff(0, 0, 10), game -> game.placeBid(0, 0, 11),
            game -> game.playFerry(0, 0), game -> game.placeBluff(1, 0, 30), game -> game.withdrawBid(1, 0),
            game -> game.settle(0), game -> game.placeBluff(1, 1, 30), game -> game.settle(1),
            game -> Games.run(game, "tide 9;suit 0 2;player 3;site 6 7 1")};
        Start start = Games.EMPTY;
        for (int i = 0; i < steps.length; i++) {
            Start before = start;
            Start undone = start.then(steps[i]).then(BridgeAuction::undo);
            due("step " + i, Sight.of(before.make()), () -> Sight.of(undone.make()));
            start = start.then(steps[i]);
            Start again = undone.then(steps[i]);
            due("step " + i + " again", Sight.of(start.make()), () -> Sight.of(again.make()));
        }
        Start end = start;
        for (int i = 1; i <= 8; i++) {
            int count = i;
            Start earlier = game -> {
                for (int step = 0; step < steps.length - count; step++) {
                    steps[step].on(game);
                }
            };
            due(i + " undone", Sight.of(earlier.make()), () -> {
                BridgeAuction game = end.make();
                for (int step = 0; step < count; step++) {
                    game.undo();
                }
                return Sight.of(game);
            });
        }
    }

    @Sentence(promise = 53, text = "Returns the number of changes that can still be undone.")
    void changesLeft() {
        for (int n = 1; n <= 12; n++) {
            int count = n;
            Start tides = game -> {
                for (int i = 0; i < count; i++) {
                    game.setTide(i % 3);
                }
            };
            answers("after " + n, Math.min(n, 8) - 1, tides, BridgeAuction::undo);
            answers("two after " + n, n == 1 ? ELEMENT : (Object) (Math.min(n, 8) - 2), tides, game -> {
                game.undo();
                return game.undo();
            });
            answers("a change between, after " + n, Math.min(n, 8) - 1, tides, game -> {
                game.undo();
                game.setTide(9);
                return game.undo();
            });
        }
        BridgeAuction game = new BridgeAuction();
        for (int i = 0; i < 5; i++) {
            due("a script is one change", 0, () -> {
                Games.run(game, "tide 1;tide 2;tide 3;tide 4;tide 5;tide 6;tide 7;tide 8");
                return game.undo();
            });
        }
    }

    @Sentence(promise = 53, text = "Throws `NoSuchElementException` if there is nothing to undo")
    void nothingToUndo() {
        refused("no change", ELEMENT, Games.EMPTY, BridgeAuction::undo);
        refused("no change but refused ones", ELEMENT, game -> Checks.answerOf(() -> game.setTide(10)),
                BridgeAuction::undo);
        refusedAsIs("other calls", ELEMENT, game -> {
            game.save();
            game.type('x');
            game.isConsistent();
        }, BridgeAuction::undo);
        for (int n = 1; n <= 10; n++) {
            int count = n;
            Start undone = game -> {
                for (int i = 1; i <= count; i++) {
                    game.setTide(i % 10);
                }
                Games.undoAll(game);
            };
            refused("all of " + n + " undone", ELEMENT, undone, BridgeAuction::undo);
            answers("then a change", 0, undone.then(game -> game.setTide(1)), BridgeAuction::undo);
        }
        Start restored = game -> {
            Games.THREE.on(game);
            game.save();
            game.setTide(3);
            game.restore();
        };
        refusedAsIs("restored", ELEMENT, restored, BridgeAuction::undo);
        Start scripts = game -> {
            Games.runInVain(game, "tide 1;settle 0");
            Games.runInVain(game, "tide 1;tide");
        };
        refusedAsIs("refused scripts", ELEMENT, scripts, BridgeAuction::undo);
    }

    // ---- promise 54: save

    @Sentence(promise = 54, text = "Takes a snapshot, which replaces an earlier one.")
    void save() {
        Start saved = Games.BUSY.then(BridgeAuction::save);
        for (Look look : new Look[] {Look.SIGHT, Look.LATEST_CHANGE, Look.ALL_CHANGES, Look.SCRIPT}) {
            due("changes nothing: " + look, look.at(Games.BUSY.make()), () -> look.at(saved.make()));
        }
        Start later = saved.then(game -> {
            game.settle(1);
            game.setTide(9);
            game.save();
            game.setTide(8);
        });
        Start due = Games.BUSY.then(game -> {
            game.settle(1);
            game.setTide(9);
        });
        due("the later one", Sight.of(due.make()), () -> Sight.of(later.then(BridgeAuction::restore).make()));
        Start earlier = later.then(Games::undoAll).then(BridgeAuction::save).then(game -> game.setTide(7));
        Start undone = due.then(game -> game.setTide(8)).then(Games::undoAll);
        due("of a state undone", Sight.of(undone.make()), () -> Sight.of(earlier.then(BridgeAuction::restore).make()));
        Start twice = saved.then(BridgeAuction::save).then(game -> game.setTide(0)).then(BridgeAuction::restore);
        due("twice the same", Sight.of(Games.BUSY.make()), () -> Sight.of(twice.make()));
    }

    @Sentence(promise = 54, text = "Returns the number of players.")
    void playersSaved() {
        for (int i = 0; i <= 4; i++) {
            int count = i;
            Start some = game -> Games.addPlayers(game, new int[count]);
            answers(i + " players", i, some, BridgeAuction::save);
            answers(i + " players and a site undone", i, some.then(game -> {
                game.addSite(0, 1, 1);
                game.undo();
            }), BridgeAuction::save);
        }
        Start undone = game -> {
            Games.addPlayers(game, 1, 2, 3, 4);
            game.save();
            game.undo();
        };
        answers("a player undone", 3, undone, BridgeAuction::save);
    }

    // ---- promise 55: restore

    @Sentence(promise = 55, text = "Restores the snapshot, which is kept.")
    void restore() {
        Start[] saves = {Games.EMPTY, Games.THREE, Games.BUSY, Games.FULL};
        for (int i = 0; i < saves.length; i++) {
            Start save = saves[i];
            Start restored = save.then(game -> {
                game.save();
                disturb(game);
                game.restore();
            });
            due("state " + i, Sight.of(save.make()), () -> Sight.of(restored.make()));
            Start again = restored.then(game -> {
                disturb(game);
                game.restore();
            });
            due("state " + i + " again", Sight.of(save.make()), () -> Sight.of(again.make()));
            Start thrice = again.then(BridgeAuction::restore);
            due("state " + i + " at once again", Sight.of(save.make()), () -> Sight.of(thrice.make()));
        }
        BridgeAuction game = Games.THREE.make();
        Games.runInVain(game, "tide x");
        Games.runInVain(game, "tide 1;settle 0");
        game.save();
        game.renderSite(1);
        Games.typeAll(game, "tide ");
        game.restore();
        due("output text stays", "4-5/9", () -> Sight.outputOf(game));
        due("error position stays", 5, game::errorPosition);
        due("failed command stays", 1, game::failedCommand);
        due("script buffer stays", 6, () -> game.type('8'));
    }

    private static void disturb(BridgeAuction game) {
        Checks.answerOf(() -> game.addPlayer(77));
        Checks.answerOf(() -> game.addSite(6, 4, 2));
        game.setTide(9 - game.tide());
        for (int island = 0; island < 8; island++) {
            game.setSuit(island, 3 - game.suit(island));
        }
        for (int i = 0; i < game.siteCount(); i++) {
            int site = i;
            Checks.answerOf(() -> game.placeBid(0, site, 20));
            Checks.answerOf(() -> game.playFerry(0, site));
            Checks.answerOf(() -> site % 2 == 0 ? game.settle(site) : game.placeBluff(0, site, 98));
        }
    }

    @Sentence(promise = 55, text = "Afterwards there is nothing to undo.")
    void nothingToUndoAfterwards() {
        for (int n = 0; n <= 10; n++) {
            int count = n;
            Start restored = game -> {
                game.setTide(5);
                game.save();
                for (int i = 0; i < count; i++) {
                    game.setTide(i % 10);
                }
                game.restore();
            };
            answers("after " + n, ELEMENT, restored, BridgeAuction::undo);
            answers("level after " + n, 5, restored.then(game -> Checks.answerOf(game::undo)), BridgeAuction::tide);
            Start changed = restored.then(game -> game.setTide(7));
            answers("a later change after " + n, 0, changed, BridgeAuction::undo);
            answers("to the snapshot after " + n, 5, changed.then(BridgeAuction::undo), BridgeAuction::tide);
        }
    }

    @Sentence(promise = 55, text = "Returns the number of players.")
    void playersRestored() {
        for (int i = 0; i <= 4; i++) {
            int count = i;
            Start saved = game -> {
                Games.addPlayers(game, new int[count]);
                game.save();
            };
            answers(i + " players", i, saved, BridgeAuction::restore);
            answers("after more players than " + i, i, saved.then(game -> Checks.answerOf(() -> game.addPlayer(1))),
                    BridgeAuction::restore);
            answers("after fewer players than " + i, i, saved.then(Games::undoAll), BridgeAuction::restore);
        }
    }

    @Sentence(promise = 55, text = "Throws `IllegalStateException` if there is no snapshot")
    void restoreWithoutSnapshot() {
        refusedAsIs("new game", STATE, Games.EMPTY, BridgeAuction::restore);
        refusedAsIs("in play", STATE, Games.BUSY, BridgeAuction::restore);
        Start refused = Games.THREE.then(game -> Checks.answerOf(game::restore));
        refusedAsIs("and again", STATE, refused, BridgeAuction::restore);
        refusedAsIs("after undo", STATE, Games.THREE.then(BridgeAuction::undo), BridgeAuction::restore);
        answers("of an empty game", 0, BridgeAuction::save, BridgeAuction::restore);
    }
}
