/** The edges of promises 1 to 9: a new object and the methods that change it. */
public final class ChangesEdgeTest extends Edges {
    public static void main(String[] args) {
        new ChangesEdgeTest().runAll();
    }

    // ---- promise 1

    @Sentence(promise = 1, value = "Creates a school without umbrellas in term 0.")
    void newObject() {
        UmbrellaSchool school = new UmbrellaSchool();
        equal("umbrellaCount", school.umbrellaCount(), 0);
        equal("term", school.term(), 0);
        equal("wetPenalty", school.wetPenalty(), 2);
        equal("galePenalty", school.galePenalty(), 3);
        equal("schoolReward", school.schoolReward(), 0);
        equal("schoolRewardByActions", school.schoolRewardByActions(), 0);
        equal("isConsistent", school.isConsistent(), true);
        equal("the output text", Schools.output(school), "");
        equal("the buffer's length with one more", school.type('a'), 1);
        equal("the first umbrella's index", school.addUmbrella(3), 0);
    }

    @Sentence(promise = 1, value = "Creates a school without umbrellas in term 0.")
    void newObjectHasNothingYet() {
        refuses("memory", NO_INDEX, NEW, school -> school.memory(0));
        refuses("umbrellaByStars", NO_ELEMENT, NEW, school -> school.umbrellaByStars(0));
        refuses("endTerm", BAD_STATE, NEW, school -> school.endTerm());
        refuses("meanSchoolReward", NO_TRIAL, NEW, school -> school.meanSchoolReward());
        refuses("openShare", NO_TRIAL, NEW, school -> school.openShare());
        refuses("outputAt", NO_INDEX, NEW, school -> school.outputAt(0));
        refuses("errorPosition", NO_ELEMENT, NEW, school -> school.errorPosition());
        refuses("failedCommand", NO_ELEMENT, NEW, school -> school.failedCommand());
        refuses("undo", BAD_STATE, NEW, school -> school.undo());
        refuses("restore", BAD_STATE, NEW, school -> school.restore());
    }

    @Sentence(promise = 1, value = "Creates a school without umbrellas in term 0.")
    void newObjectsAreApart() {
        UmbrellaSchool one = Schools.full();
        UmbrellaSchool other = new UmbrellaSchool();
        equal("another one's umbrellas", other.umbrellaCount(), 0);
        equal("another one's buffer", other.type('a'), 1);
        raises("another one's snapshot", BAD_STATE, () -> other.restore());
        raises("another one's changes", BAD_STATE, () -> other.undo());
        equal("the first one's umbrellas", one.umbrellaCount(), 6);
    }

    // ---- promise 2

    @Sentence(promise = 2, value = "Throws `IllegalArgumentException` if memory is not between 3 and 20")
    void memoriesFrom3To20() {
        for (int memory = 3; memory <= 20; memory++) {
            UmbrellaSchool school = new UmbrellaSchool();
            equal("addUmbrella " + memory, school.addUmbrella(memory), 0);
            equal("memory", school.memory(0), memory);
        }
        refusesNumbers("addUmbrella", NO_MEMORIES, (school, wrong) -> school.addUmbrella(wrong));
        refuses("addUmbrella 2 as the first one", BAD_ARGUMENT, NEW, school -> school.addUmbrella(2));
        refuses("addUmbrella 21 as the first one", BAD_ARGUMENT, NEW, school -> school.addUmbrella(21));
    }

    @Sentence(promise = 2, value = "Throws `IllegalStateException` if there are 6 umbrellas")
    void sixUmbrellas() {
        UmbrellaSchool school = new UmbrellaSchool();
        for (int i = 0; i < 6; i++) {
            equal("addUmbrella to " + i, school.addUmbrella(20 - i), i);
        }
        raises("a seventh", BAD_STATE, () -> school.addUmbrella(20));
        raises("a seventh again", BAD_STATE, () -> school.addUmbrella(3));
        equal("umbrellaCount", school.umbrellaCount(), 6);
        equal("the last one's memory", school.memory(5), 15);
        school.undo();
        equal("a sixth after undo", school.addUmbrella(3), 5);
        refuses("addUmbrella 3", BAD_STATE, FULL, full -> full.addUmbrella(3));
        refuses("addUmbrella 20", BAD_STATE, FULL, full -> full.addUmbrella(20));
    }

    @Sentence(promise = 2, value = "Returns the index of the umbrella.")
    void indicesFrom0To5() {
        UmbrellaSchool school = new UmbrellaSchool();
        for (int i = 0; i <= 5; i++) {
            raises("a refused one", BAD_ARGUMENT, () -> school.addUmbrella(21));
            equal("addUmbrella", school.addUmbrella(3 + i), i);
        }
        Schools.undone(school, 3);
        equal("after undo", school.addUmbrella(20), 3);
        equal("its memory", school.memory(3), 20);
    }

    @Sentence(promise = 2, value = "Adds an umbrella, which remembers no trials.")
    void newUmbrellasAreFresh() {
        for (int umbrella = 0; umbrella <= 5; umbrella++) {
            equal("umbrella " + umbrella, Schools.description(Schools.with(3, 4, 5, 6, 7, 8), umbrella),
                    "0/" + (3 + umbrella) + "p0*0:");
        }
        Everything.Maker due = () -> Schools.with(3);
        same("after undo", () -> {
            UmbrellaSchool school = new UmbrellaSchool();
            school.addUmbrella(20);
            leadAFullLife(school);
            Schools.undone(school, 8).addUmbrella(3);
            return school;
        }, due);
        same("after a script that failed", () -> {
            UmbrellaSchool school = new UmbrellaSchool();
            Schools.run(school, "add 9;train 0 30x9;period 0 4;exam 0 0;term;exam 1 0");
            school.addUmbrella(3);
            return school;
        }, due, "failedCommand");
        UmbrellaSchool restored = new UmbrellaSchool();
        restored.save();
        restored.addUmbrella(20);
        leadAFullLife(restored);
        restored.restore();
        restored.addUmbrella(3);
        equal("after restore", Schools.description(restored, 0), "0/3p0*0:");
        equal("its trials", restored.trials(0), 0);
        equal("its rewards", restored.totalReward(0) * 1000 + restored.termReward(0), 0);
        equal("its habits", Schools.habits(restored, 0), "cccc/cccc/cccc/cccc");
        equal("known situations", restored.knownSituations(0), 0);
        equal("consistent", restored.isConsistent(), true);
    }

    /** Seven changes of umbrella 0. */
    private static void leadAFullLife(UmbrellaSchool school) {
        school.setPeriod(0, 2);
        school.train(0, 3, 0, 9);
        school.train(0, 2, 0, 4);
        school.examine(0, 0);
        school.endTerm();
        school.train(0, 1, 3, 5);
        school.setPeriod(0, 9);
    }

    // ---- promise 3

    @Sentence(promise = 3, value = "Throws `IndexOutOfBoundsException` if there is no such umbrella")
    void trainOfAStranger() {
        refusesStrangers("train", (school, wrong) -> school.train(wrong, 3, 3, 9));
        UmbrellaSchool school = Schools.with(3, 3, 3, 3, 3, 3);
        equal("the first of 6", school.train(0, 1, 0, 1), -2);
        equal("the last of 6", school.train(5, 1, 0, 1), -2);
    }

    @Sentence(promise = 3, value = "Throws `IllegalArgumentException` if rain or wind is not between 0 and 3, or trials is not between 1 and 9")
    void trainWithWrongNumbers() {
        refusesSituations("train", (school, rain, wind) -> school.train(1, rain, wind, 1));
        refusesNumbers("train, trials", NO_TIMES, (school, wrong) -> school.train(1, 3, 0, wrong));
        refuses("train with all wrong", BAD_ARGUMENT, TYPING, school -> school.train(0, -1, 4, 0));
    }

    @Sentence(promise = 3, value = "Lets an umbrella make trials in a situation, one after the other.")
    void trainInEachSituation() {
        for (int rain = 0; rain <= 3; rain++) {
            for (int wind = 0; wind <= 3; wind++) {
                UmbrellaSchool school = Schools.with(3, 3);
                equal("closed", school.train(1, rain, wind, 1), -2 * rain);
                equal("open", Schools.open(school, 1, rain, wind), 4 * rain - 3 * wind);
                equal("timesTried", school.timesTried(1, rain, wind, true), 1);
                equal("situationRain", school.situationRain(1, 0), rain);
                equal("situationWind", school.situationWind(1, 0), wind);
                equal("the other umbrella's trials", school.trials(0), 0);
            }
        }
    }

    @Sentence(promise = 3, value = "Lets an umbrella make trials in a situation, one after the other.")
    void trainOneAfterTheOther() {
        UmbrellaSchool school = Schools.with(3);
        school.setPeriod(0, 1);
        // Each time the opposite of the habit: open 12, closed -6, closed -6, then the opening is forgotten.
        equal("three trials", school.train(0, 3, 0, 3), 12 - 6 - 6);
        equal("the opening still counts in the fourth", school.train(0, 3, 0, 1), -6);
        equal("and not in the fifth", school.train(0, 3, 0, 1), 12);
        UmbrellaSchool once = Schools.with(3);
        once.setPeriod(0, 1);
        equal("the same in one call", once.train(0, 3, 0, 5), 12 - 6 - 6 - 6 + 12);
    }

    @Sentence(promise = 3, value = "Returns the sum of the rewards.")
    void sumsOfOneToNineTrials() {
        for (int times = 1; times <= 9; times++) {
            UmbrellaSchool school = Schools.with(3);
            equal(times + " times closed", school.train(0, 3, 3, times), -6 * times);
            equal("the trials", school.trials(0), times);
            equal("the remembered ones", school.rememberedTrials(0), Math.min(3, times));
            school.setWetPenalty(9);
            equal("the least sum", school.train(0, 3, 3, times), -27 * times);
            equal("a sum of 0", school.train(0, 0, 3, times), 0);
        }
        UmbrellaSchool school = Schools.with(20);
        Schools.open(school, 0, 3, 0);
        school.setPeriod(0, 0);
        equal("the greatest sum", school.train(0, 3, 0, 9), 9 * 12);
    }

    // ---- promise 4

    @Sentence(promise = 4, value = "Throws `IndexOutOfBoundsException` if there is no such umbrella")
    void setPeriodOfAStranger() {
        refusesStrangers("setPeriod", (school, wrong) -> school.setPeriod(wrong, 5));
        UmbrellaSchool school = Schools.with(3, 3, 3, 3, 3, 3);
        school.setPeriod(5, 4);
        school.setPeriod(0, 3);
        equal("the last of 6", school.period(5), 4);
        equal("the first of 6", school.period(0), 3);
    }

    @Sentence(promise = 4, value = "Throws `IllegalArgumentException` if period is not between 0 and 9")
    void periodsFrom0To9() {
        refusesNumbers("setPeriod", NO_DIGITS, (school, wrong) -> school.setPeriod(1, wrong));
        for (int period = 0; period <= 9; period++) {
            UmbrellaSchool school = Schools.with(3);
            equal("setPeriod " + period, school.setPeriod(0, period), 0);
            equal("period", school.period(0), period);
        }
    }

    @Sentence(promise = 4, value = "Returns the previous period.")
    void previousPeriods() {
        UmbrellaSchool school = Schools.with(3, 3);
        equal("the first one", school.setPeriod(0, 9), 0);
        equal("the greatest one", school.setPeriod(0, 9), 9);
        equal("the same one", school.setPeriod(0, 0), 9);
        equal("the least one", school.setPeriod(0, 1), 0);
        equal("another umbrella's", school.setPeriod(1, 2), 0);
    }

    // ---- promises 5 and 6

    @Sentence(promise = 5, value = "Throws `IllegalArgumentException` if penalty is not between 0 and 9")
    void wetPenaltiesFrom0To9() {
        refusesNumbers("setWetPenalty", NO_DIGITS, (school, wrong) -> school.setWetPenalty(wrong));
        int previous = 2;
        UmbrellaSchool school = new UmbrellaSchool();
        for (int penalty = 0; penalty <= 9; penalty++) {
            equal("setWetPenalty " + penalty, school.setWetPenalty(penalty), previous);
            equal("wetPenalty", school.wetPenalty(), penalty);
            previous = penalty;
        }
        equal("galePenalty", school.galePenalty(), 3);
    }

    @Sentence(promise = 5, value = "Returns the previous penalty.")
    void previousWetPenalties() {
        UmbrellaSchool school = new UmbrellaSchool();
        equal("the initial one", school.setWetPenalty(2), 2);
        equal("the same one", school.setWetPenalty(9), 2);
        equal("the greatest one", school.setWetPenalty(0), 9);
        equal("the least one", school.setWetPenalty(0), 0);
        raises("a wrong one", BAD_ARGUMENT, () -> school.setWetPenalty(10));
        equal("the one before the wrong one", school.setWetPenalty(1), 0);
    }

    @Sentence(promise = 6, value = "Throws `IllegalArgumentException` if penalty is not between 0 and 9")
    void galePenaltiesFrom0To9() {
        refusesNumbers("setGalePenalty", NO_DIGITS, (school, wrong) -> school.setGalePenalty(wrong));
        int previous = 3;
        UmbrellaSchool school = new UmbrellaSchool();
        for (int penalty = 0; penalty <= 9; penalty++) {
            equal("setGalePenalty " + penalty, school.setGalePenalty(penalty), previous);
            equal("galePenalty", school.galePenalty(), penalty);
            previous = penalty;
        }
        equal("wetPenalty", school.wetPenalty(), 2);
    }

    @Sentence(promise = 6, value = "Returns the previous penalty.")
    void previousGalePenalties() {
        UmbrellaSchool school = new UmbrellaSchool();
        equal("the initial one", school.setGalePenalty(3), 3);
        equal("the same one", school.setGalePenalty(9), 3);
        equal("the greatest one", school.setGalePenalty(0), 9);
        equal("the least one", school.setGalePenalty(0), 0);
        raises("a wrong one", BAD_ARGUMENT, () -> school.setGalePenalty(-1));
        equal("the one before the wrong one", school.setGalePenalty(1), 0);
    }

    // ---- promise 7

    @Sentence(promise = 7, value = "Throws `IndexOutOfBoundsException` if there is no such umbrella")
    void forgetRainOfAStranger() {
        refusesStrangers("forgetRain", (school, wrong) -> school.forgetRain(wrong, 3));
    }

    @Sentence(promise = 7, value = "Throws `IllegalArgumentException` if rain is not between 0 and 3")
    void forgetWrongRain() {
        refusesNumbers("forgetRain", NO_LEVELS, (school, wrong) -> school.forgetRain(0, wrong));
    }

    @Sentence(promise = 7, value = "Lets an umbrella forget all remembered trials in a rain.")
    void forgetEachRain() {
        for (int rain = 0; rain <= 3; rain++) {
            UmbrellaSchool school = Schools.with(20, 20);
            for (int i = 0; i < 16; i++) {
                Schools.act(school, 0, i % 4, i / 4, i % 3 == 0);
            }
            school.train(1, rain, 0, 1);
            equal("forgetRain " + rain, school.forgetRain(0, rain), 4);
            equal("the rest", school.rememberedTrials(0), 12);
            for (int wind = 0; wind <= 3; wind++) {
                for (boolean isOpen : new boolean[] {false, true}) {
                    equal("timesTried", school.timesTried(0, rain, wind, isOpen), 0);
                    equal("rewardSum", school.rewardSum(0, rain, wind, isOpen), 0);
                }
                equal("wouldOpen", school.wouldOpen(0, rain, wind), false);
            }
            int recency = 0;
            for (int i = 15; i >= 0; i--) {
                if (i % 4 != rain) {
                    equal("the rest in its order, rain", school.trialRain(0, recency), i % 4);
                    equal("the rest in its order, action", school.trialOpened(0, recency), i % 3 == 0);
                    recency++;
                }
            }
            equal("known situations", school.knownSituations(0), 12);
            equal("another umbrella's trials", school.rememberedTrials(1), 1);
        }
    }

    @Sentence(promise = 7, value = "Returns the number of trials that are forgotten.")
    void numbersOfForgottenTrials() {
        UmbrellaSchool school = Schools.with(20);
        equal("nothing is remembered", school.forgetRain(0, 0), 0);
        school.train(0, 2, 0, 9);
        school.train(0, 2, 3, 9);
        school.train(0, 2, 1, 3);
        equal("none in this rain", school.forgetRain(0, 1), 0);
        equal("a full memory", school.forgetRain(0, 2), 20);
        equal("nothing is left", school.rememberedTrials(0), 0);
        equal("again", school.forgetRain(0, 2), 0);
        school.train(0, 2, 0, 1);
        school.train(0, 3, 0, 1);
        equal("the older one", school.forgetRain(0, 2), 1);
        equal("the only one", school.forgetRain(0, 3), 1);
    }

    @Sentence(promise = 7, value = "Lets an umbrella forget all remembered trials in a rain.")
    void forgettingMakesRoom() {
        UmbrellaSchool school = Schools.with(4);
        school.train(0, 1, 0, 3);
        school.train(0, 2, 0, 2);
        equal("two of rain 1 are left", school.forgetRain(0, 1), 2);
        school.train(0, 3, 0, 2);
        equal("nothing more is forgotten", school.timesTried(0, 2, 0, false), 2);
        school.train(0, 0, 0, 1);
        equal("the oldest one", school.timesTried(0, 2, 0, false), 1);
        equal("not the next one", school.timesTried(0, 3, 0, false), 2);
        equal("the trials made", school.trials(0), 8);
        equal("the total reward", school.totalReward(0), -6 - 8 - 12);
        equal("consistent", school.isConsistent(), true);
        school.setPeriod(0, 9);
        equal("the numbers go on", school.exploresNext(0), true);
    }

    // ---- promise 8

    @Sentence(promise = 8, value = "Throws `IndexOutOfBoundsException` if there is no such umbrella")
    void examineAStranger() {
        refusesStrangers("examine", (school, wrong) -> school.examine(wrong, 3));
    }

    @Sentence(promise = 8, value = "Throws `IllegalArgumentException` if wind is not between 0 and 3")
    void examineForWrongWind() {
        refusesNumbers("examine", NO_LEVELS, (school, wrong) -> school.examine(1, wrong));
    }

    @Sentence(promise = 8, value = "Returns the number of right answers.")
    void examinesForEachWind() {
        UmbrellaSchool school = Schools.with(3);
        // It stays closed, and should open where twice the rain is more than the wind.
        int[] due = {1, 1, 2, 2};
        for (int wind = 0; wind <= 3; wind++) {
            equal("examine " + wind, school.examine(0, wind), due[wind]);
            equal("hasExam " + wind, school.hasExam(0, wind), false);
        }
        school.setWetPenalty(0);
        school.setGalePenalty(9);
        int[] windy = {1, 3, 4, 4};
        for (int wind = 0; wind <= 3; wind++) {
            equal("examine " + wind + " in gales", school.examine(0, wind), windy[wind]);
            equal("hasExam " + wind + " in gales", school.hasExam(0, wind), wind > 0);
        }
        equal("no trial is made", school.trials(0), 0);
    }

    // ---- promise 9

    @Sentence(promise = 9, value = "Throws `IllegalStateException` if there are no umbrellas")
    void endTermWithoutUmbrellas() {
        refuses("endTerm", BAD_STATE, NEW, school -> school.endTerm());
        UmbrellaSchool school = Schools.with(3);
        school.undo();
        raises("endTerm after undo", BAD_STATE, () -> school.endTerm());
        school.addUmbrella(3);
        equal("endTerm with one", school.endTerm(), 0);
    }

    @Sentence(promise = 9, value = "Returns the index of the umbrella that gets a star.")
    void endTermAnswersTheBest() {
        for (int best = 0; best <= 5; best++) {
            UmbrellaSchool school = Schools.with(3, 3, 3, 3, 3, 3);
            Schools.open(school, best, 3, 0);
            equal("endTerm", school.endTerm(), best);
            for (int i = 0; i <= 5; i++) {
                equal("stars " + i + ", best " + best, school.stars(i), i == best ? 1 : 0);
            }
        }
    }
}
