/** The edges of changes: the section of that name, and promises 51 to 53. */
public final class UndoEdgeTest extends Edges {
    private static final String[] CHANGES = {
        "addUmbrella", "train", "setPeriod", "setWetPenalty", "setGalePenalty", "forgetRain", "examine", "endTerm",
        "runScript"
    };

    public static void main(String[] args) {
        new UndoEdgeTest().runAll();
    }

    /** The same as busy, with nothing to undo. */
    private static UmbrellaSchool settled() {
        UmbrellaSchool school = Schools.busy();
        school.save();
        school.restore();
        return school;
    }

    /** One of the changes of settled, each with an effect. */
    private static Object change(UmbrellaSchool school, String name) {
        switch (name) {
            case "addUmbrella":
                return school.addUmbrella(20);
            case "train":
                return school.train(0, 2, 2, 5);
            case "setPeriod":
                return school.setPeriod(1, 9);
            case "setWetPenalty":
                return school.setWetPenalty(0);
            case "setGalePenalty":
                return school.setGalePenalty(9);
            case "forgetRain":
                return school.forgetRain(1, 2);
            case "examine":
                return school.examine(0, 3);
            case "endTerm":
                return school.endTerm();
            default:
                return Schools.run(school, "wet 5;train 1 31x9;period 0 0;add 9;term");
        }
    }

    private static Everything.Maker changed(Everything.Maker maker, String... names) {
        return () -> {
            UmbrellaSchool school = maker.make();
            for (String name : names) {
                change(school, name);
            }
            return school;
        };
    }

    private static Everything.Maker undone(Everything.Maker maker, int times) {
        return () -> Schools.undone(maker.make(), times);
    }

    // ---- what is a change

    @Sentence(promise = 0, value = "A change is a call of addUmbrella, train, setPeriod, setWetPenalty, setGalePenalty, forgetRain, examine, endTerm or runScript that returns normally")
    void nineKindsOfChanges() {
        Everything.Maker settled = UndoEdgeTest::settled;
        for (String name : CHANGES) {
            UmbrellaSchool school = changed(settled, name).make();
            equal("undo of " + name, school.undo(), 0);
            raises("undo of nothing", BAD_STATE, () -> school.undo());
            same("undo of " + name, undone(changed(settled, name), 1), settled);
        }
        for (String name : CHANGES) {
            Everything.Maker before = changed(settled, "endTerm", "setGalePenalty", "train");
            Everything.Maker after = changed(settled, "endTerm", "setGalePenalty", "train", name);
            equal("undo of " + name + " as the fourth", after.make().undo(), 3);
            same("undo of " + name + " as the fourth", undone(after, 1), before);
        }
    }

    @Sentence(promise = 0, value = "even if the state is the same afterwards")
    void changesWithoutAnEffect() {
        countsAsChange("setPeriod", school -> school.setPeriod(0, 3));
        countsAsChange("setWetPenalty", school -> school.setWetPenalty(2));
        countsAsChange("setGalePenalty", school -> school.setGalePenalty(2));
        countsAsChange("forgetRain", school -> school.forgetRain(0, 0));
        countsAsChange("examine", school -> school.examine(1, 3));
        countsAsChange("examine that is failed again", school -> school.examine(0, 0));
        countsAsChange("runScript", school -> Schools.run(school, "wet 2"));
        countsAsChange("runScript there and back", school -> Schools.run(school, "gale 7;gale 2"));
    }

    private void countsAsChange(String what, Asking call) {
        UmbrellaSchool school = settled();
        call.ask(school);
        equal(what + " can be undone", Checks.answerOf(() -> school.undo()), 0);
        UmbrellaSchool nine = new UmbrellaSchool();
        nine.addUmbrella(4);
        nine.addUmbrella(4);
        for (int penalty = 1; penalty <= 8; penalty++) {
            nine.setWetPenalty(penalty);
        }
        nine.setWetPenalty(2);
        nine.setGalePenalty(2);
        nine.setPeriod(0, 3);
        call.ask(nine);
        for (int left = 7; left >= 0; left--) {
            equal(what + " takes one of 8 places", Checks.answerOf(() -> nine.undo()), left);
        }
        equal(what + ", the oldest of 8", nine.wetPenalty(), 4);
    }

    @Sentence(promise = 0, value = "A change is a call of addUmbrella, train, setPeriod, setWetPenalty, setGalePenalty, forgetRain, examine, endTerm or runScript that returns normally")
    void otherCallsAreNoChanges() {
        Everything.Maker settled = UndoEdgeTest::settled;
        isNoChange("type", school -> school.type('t'));
        isNoChange("save", school -> school.save());
        isNoChange("renderHabits", school -> school.renderHabits(0));
        isNoChange("renderUmbrella", school -> school.renderUmbrella(0));
        isNoChange("a script with a wrong form", school -> Schools.run(school, "wet 3;"));
        isNoChange("a script with a failed command", school -> Schools.run(school, "wet 3;add 2"));
        isNoChange("a refused addUmbrella", school -> school.addUmbrella(2));
        isNoChange("a refused train", school -> school.train(0, 0, 0, 0));
        isNoChange("a refused setPeriod", school -> school.setPeriod(0, 10));
        isNoChange("a refused setWetPenalty", school -> school.setWetPenalty(10));
        isNoChange("a refused setGalePenalty", school -> school.setGalePenalty(10));
        isNoChange("a refused forgetRain", school -> school.forgetRain(0, 4));
        isNoChange("a refused examine", school -> school.examine(0, 4));
        // All questions of the face: Everything puts them to schools of its own, so they are put here again.
        same("all questions", () -> {
            UmbrellaSchool school = settled.make();
            askAll(school);
            return school;
        }, settled);
    }

    private void isNoChange(String what, Asking call) {
        UmbrellaSchool school = settled();
        Checks.answerOf(() -> call.ask(school));
        raises("undo after " + what, BAD_STATE, () -> school.undo());
        UmbrellaSchool one = settled();
        one.endTerm();
        one.setWetPenalty(9);
        Checks.answerOf(() -> call.ask(one));
        equal("undo before " + what, one.undo(), 1);
        equal("wetPenalty before " + what, one.wetPenalty(), 2);
    }

    private static void askAll(UmbrellaSchool school) {
        school.umbrellaCount();
        school.memory(0);
        school.period(0);
        school.trials(0);
        school.rememberedTrials(0);
        school.trialRain(0, 0);
        school.trialOpened(0, 0);
        school.trialReward(0, 0);
        school.reward(3, 1, true);
        school.shouldOpen(3, 1);
        school.wouldOpen(0, 3, 1);
        school.exploresNext(0);
        school.timesTried(0, 3, 1, true);
        school.rewardSum(0, 3, 1, true);
        school.rewardSumByTrials(0, 3, 1, true);
        school.meanReward(0, 3, 1, true);
        school.rightHabits(0);
        school.knownSituations(0);
        school.situationRain(0, 0);
        school.situationWind(0, 0);
        school.hasExam(0, 3);
        school.isGraduate(0);
        school.totalReward(0);
        school.termReward(0);
        school.stars(0);
        school.umbrellaByStars(0);
        school.wetPenalty();
        school.galePenalty();
        school.term();
        school.schoolReward();
        school.schoolRewardByActions();
        school.meanSchoolReward();
        school.openShare();
        school.isConsistent();
        school.outputAt(0);
        school.errorPosition();
        school.failedCommand();
    }

    // ---- how many can be undone

    @Sentence(promise = 0, value = "The latest 8 changes can be undone, the latest one first.")
    void theLatestEightChanges() {
        for (int made : new int[] {0, 1, 2, 7, 8, 9, 10, 15, 16, 17, 18, 24, 25, 26, 27, 28, 33, 100}) {
            UmbrellaSchool school = new UmbrellaSchool();
            for (int i = 1; i <= made; i++) {
                school.setWetPenalty(i % 7);
            }
            int most = Math.min(8, made);
            for (int undone = 1; undone <= most; undone++) {
                equal("undo " + undone + " of " + made, school.undo(), most - undone);
                int last = made - undone;
                equal("the penalty then", school.wetPenalty(), last == 0 ? 2 : last % 7);
            }
            raises("no more of " + made, BAD_STATE, () -> school.undo());
            equal("the penalty stays", school.wetPenalty(), made <= 8 ? 2 : (made - 8) % 7);
        }
    }

    @Sentence(promise = 0, value = "The latest 8 changes can be undone, the latest one first.")
    void changesAfterUndo() {
        for (int undone = 0; undone <= 8; undone++) {
            for (int more = 0; more <= 10; more++) {
                UmbrellaSchool school = new UmbrellaSchool();
                int[] due = new int[30];
                int present = 0;
                due[0] = 2;
                for (int i = 0; i < 9; i++) {
                    present++;
                    due[present] = i;
                    school.setWetPenalty(i);
                }
                for (int i = 0; i < undone; i++) {
                    school.undo();
                    present--;
                }
                for (int i = 0; i < more; i++) {
                    present++;
                    due[present] = 9 - i % 5;
                    school.setWetPenalty(9 - i % 5);
                }
                int left = Math.min(8, 8 - undone + more);
                while (left > 0) {
                    left--;
                    present--;
                    equal("undo, " + undone + " undone, " + more + " more", school.undo(), left);
                    equal("the penalty then", school.wetPenalty(), due[present]);
                }
                raises("no more", BAD_STATE, () -> school.undo());
            }
        }
    }

    @Sentence(promise = 0, value = "The latest 8 changes can be undone, the latest one first.")
    void failedScriptsTakeNoPlace() {
        UmbrellaSchool school = new UmbrellaSchool();
        for (int penalty = 0; penalty <= 8; penalty++) {
            school.setWetPenalty(penalty);
        }
        for (int i = 0; i < 10; i++) {
            equal("a failed script", Schools.run(school, "wet 9;gale 9;add 2"), BAD_STATE);
            equal("a wrong form", Schools.run(school, "wet 9;gale"), BAD_ARGUMENT);
        }
        for (int left = 7; left >= 0; left--) {
            equal("undo", school.undo(), left);
            equal("the penalty then", school.wetPenalty(), left);
        }
        raises("no more", BAD_STATE, () -> school.undo());
    }

    // ---- what undo and the snapshot cover

    @Sentence(promise = 0, value = "Undo and the snapshot cover everything except the script buffer, the error position, the index of the failed command, the output text and the snapshot itself.")
    void undoLeavesTheRest() {
        UmbrellaSchool school = restOf(settled());
        school.undo();
        equal("the change", school.wetPenalty(), 2);
        theRestIsThere(school);
        equal("the snapshot is the later one", school.restore() * 10 + school.galePenalty(), 20 + 5);
        equal("the wet penalty of the snapshot", school.wetPenalty(), 7);
    }

    @Sentence(promise = 0, value = "Undo and the snapshot cover everything except the script buffer, the error position, the index of the failed command, the output text and the snapshot itself.")
    void restoreLeavesTheRest() {
        UmbrellaSchool school = restOf(settled());
        school.restore();
        equal("the snapshot", school.galePenalty(), 5);
        theRestIsThere(school);
    }

    /** With another error position, failed command, output text, script and snapshot than before; one change to undo. */
    private static UmbrellaSchool restOf(UmbrellaSchool school) {
        school.setGalePenalty(5);
        school.setWetPenalty(7);
        school.save();
        school.undo();
        school.setWetPenalty(8);
        Schools.run(school, "term;ter");
        Schools.run(school, "term;wet 1;gale 1;add 99");
        school.renderUmbrella(0);
        Schools.type(school, "te");
        return school;
    }

    private void theRestIsThere(UmbrellaSchool school) {
        equal("the error position", school.errorPosition(), 8);
        equal("the failed command", school.failedCommand(), 3);
        equal("the output text", Schools.output(school), "4/4p3*1:");
        equal("the buffer's length", school.type('r'), 3);
        equal("the buffer's script", Schools.run(school, "m"), 1);
        school.undo();
    }

    @Sentence(promise = 0, value = "A method that throws an exception changes nothing unless its description says otherwise.")
    void refusedUndoAndRestore() {
        refuses("undo", BAD_STATE, NEW, school -> school.undo());
        refuses("undo after restore", BAD_STATE, UndoEdgeTest::settled, school -> school.undo());
        refuses("undo after 8 of 12", BAD_STATE, undone(BUSY, 8), school -> school.undo());
        refuses("restore", BAD_STATE, NEW, school -> school.restore());
        refuses("restore with 8 changes", BAD_STATE, UndoEdgeTest::eightChanges, school -> school.restore());
    }

    private static UmbrellaSchool eightChanges() {
        UmbrellaSchool school = Schools.with(3, 4, 5);
        school.train(0, 3, 0, 4);
        school.train(1, 2, 0, 2);
        school.endTerm();
        school.setWetPenalty(0);
        school.examine(2, 1);
        Schools.type(school, "term");
        return school;
    }

    // ---- promises 51 to 53

    @Sentence(promise = 51, value = "Throws `IllegalStateException` if there is nothing to undo")
    void nothingToUndo() {
        raises("a new one", BAD_STATE, () -> new UmbrellaSchool().undo());
        UmbrellaSchool school = Schools.with(3);
        school.undo();
        raises("all undone", BAD_STATE, () -> school.undo());
        raises("all undone, again", BAD_STATE, () -> school.undo());
        school.addUmbrella(4);
        equal("a new change", school.undo(), 0);
        raises("after a failed change", BAD_STATE, () -> {
            UmbrellaSchool other = new UmbrellaSchool();
            Checks.answerOf(() -> other.addUmbrella(2));
            return other.undo();
        });
        raises("after save and restore", BAD_STATE, () -> settled().undo());
    }

    @Sentence(promise = 51, value = "Undoes the latest change that has not been undone.")
    void whatWasUndoneIsNotUndoneAgain() {
        UmbrellaSchool school = new UmbrellaSchool();
        school.setWetPenalty(5);
        school.setGalePenalty(6);
        school.setWetPenalty(7);
        equal("the third change", school.undo() * 100 + school.wetPenalty() * 10 + school.galePenalty(), 256);
        equal("the second one", school.undo() * 100 + school.wetPenalty() * 10 + school.galePenalty(), 153);
        school.setWetPenalty(9);
        equal("a new second one", school.undo() * 100 + school.wetPenalty() * 10 + school.galePenalty(), 153);
        equal("the first one", school.undo() * 100 + school.wetPenalty() * 10 + school.galePenalty(), 23);
        raises("no more", BAD_STATE, () -> school.undo());
        equal("the initial penalties stay", school.wetPenalty() * 10 + school.galePenalty(), 23);
    }

    @Sentence(promise = 51, value = "Returns the number of changes that can still be undone.")
    void fromSevenToZero() {
        UmbrellaSchool school = eightChanges();
        for (int left = 7; left >= 0; left--) {
            equal("undo", school.undo(), left);
        }
        same("all 8 undone", undone(() -> {
            UmbrellaSchool again = eightChanges();
            Checks.answerOf(() -> again.runScript());
            return again;
        }, 9), () -> {
            UmbrellaSchool oldest = Schools.with(3);
            for (int i = 0; i < 8; i++) {
                oldest.setWetPenalty(0);
            }
            return Schools.undone(oldest, 8);
        });
    }

    @Sentence(promise = 52, value = "Takes a snapshot, which replaces an earlier one.")
    void theLatestSnapshot() {
        UmbrellaSchool school = Schools.with(3);
        school.save();
        school.setWetPenalty(5);
        school.save();
        school.setWetPenalty(6);
        school.restore();
        equal("the second one", school.wetPenalty(), 5);
        school.setWetPenalty(7);
        school.save();
        school.setWetPenalty(8);
        school.restore();
        equal("the third one", school.wetPenalty(), 7);
        Everything.Maker saved = () -> {
            UmbrellaSchool busy = Schools.busy();
            busy.save();
            return busy;
        };
        same("save leaves all but the snapshot", saved, BUSY, "restore");
        same("the snapshot is the present state", () -> Schools.restored(saved.make()), BUSY, "undo", "restore");
    }

    @Sentence(promise = 52, value = "Returns the number of umbrellas.")
    void saveWith0To6Umbrellas() {
        UmbrellaSchool school = new UmbrellaSchool();
        for (int umbrellas = 0; umbrellas <= 6; umbrellas++) {
            equal("save", school.save(), umbrellas);
            if (umbrellas < 6) {
                school.addUmbrella(3);
            }
        }
    }

    @Sentence(promise = 53, value = "Throws `IllegalStateException` if there is no snapshot")
    void noSnapshot() {
        raises("a new one", BAD_STATE, () -> new UmbrellaSchool().restore());
        raises("with changes", BAD_STATE, () -> eightChanges().restore());
        UmbrellaSchool school = new UmbrellaSchool();
        raises("again", BAD_STATE, () -> school.restore());
        school.save();
        equal("with a snapshot of nothing", school.restore(), 0);
    }

    @Sentence(promise = 53, value = "Returns the number of umbrellas.")
    void restoreWith0To6Umbrellas() {
        for (int umbrellas = 0; umbrellas <= 6; umbrellas++) {
            UmbrellaSchool school = new UmbrellaSchool();
            for (int i = 0; i < umbrellas; i++) {
                school.addUmbrella(3 + i);
            }
            school.save();
            for (int i = umbrellas; i < 6; i++) {
                school.addUmbrella(20);
            }
            equal("restore", school.restore(), umbrellas);
            equal("umbrellaCount", school.umbrellaCount(), umbrellas);
            int none = umbrellas;
            raises("the next umbrella", NO_INDEX, () -> school.memory(none));
            equal("the next umbrella's index", Checks.answerOf(() -> school.addUmbrella(7)),
                    umbrellas < 6 ? (Object) umbrellas : BAD_STATE);
        }
        UmbrellaSchool more = new UmbrellaSchool();
        more.addUmbrella(5);
        more.train(0, 1, 0, 2);
        more.save();
        Schools.undone(more, 2);
        equal("more umbrellas than before", more.restore(), 1);
        equal("with their trials", more.trials(0), 2);
    }

    @Sentence(promise = 53, value = "Restores the snapshot, which is kept.")
    void anUmbrellaThatWasUndoneComesBack() {
        Everything.Maker saved = () -> {
            UmbrellaSchool school = Schools.with(5, 7);
            school.setPeriod(1, 3);
            school.train(1, 2, 1, 9);
            school.save();
            return school;
        };
        same("in the place of another one", () -> {
            UmbrellaSchool school = Schools.undone(saved.make(), 3);
            school.addUmbrella(20);
            school.train(1, 1, 3, 9);
            school.train(1, 0, 0, 9);
            return Schools.restored(school);
        }, () -> Schools.restored(saved.make()));
    }

    @Sentence(promise = 53, value = "Restores the snapshot, which is kept.")
    void theSnapshotIsKept() {
        Everything.Maker settled = UndoEdgeTest::settled;
        for (String name : CHANGES) {
            Everything.Maker changed = changed(settled, name);
            same("once, " + name, () -> Schools.restored(changed.make()), settled);
            same("twice, " + name, () -> {
                UmbrellaSchool school = Schools.restored(changed.make());
                change(school, name);
                change(school, "train");
                return Schools.restored(school);
            }, settled);
            same("undo does not reach it, " + name, () -> {
                UmbrellaSchool school = changed.make();
                school.undo();
                return Schools.restored(school);
            }, settled);
        }
    }

    @Sentence(promise = 53, value = "Afterwards there is nothing to undo.")
    void nothingToUndoAfterRestore() {
        for (int changes = 0; changes <= 9; changes++) {
            UmbrellaSchool school = new UmbrellaSchool();
            school.save();
            for (int i = 0; i < changes; i++) {
                school.setWetPenalty(i);
            }
            school.restore();
            raises("undo after " + changes + " changes and restore", BAD_STATE, () -> school.undo());
            equal("the penalty", school.wetPenalty(), 2);
            for (int i = 0; i < 9; i++) {
                school.setGalePenalty(i);
            }
            for (int left = 7; left >= 0; left--) {
                equal("changes after restore", school.undo(), left);
                equal("the penalty before", school.galePenalty(), left);
            }
            raises("no more", BAD_STATE, () -> school.undo());
        }
    }
}
