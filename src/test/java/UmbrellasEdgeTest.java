/** The edges of promises 10 to 35: what is told of umbrellas, their trials, habits, exams and stars. */
public final class UmbrellasEdgeTest extends Edges {
    private static final int MIN = Integer.MIN_VALUE;
    private static final int MAX = Integer.MAX_VALUE;
    private static final int[] NO_RANKS = {MIN, -256, -1, 16, 17, 256, 65536, MAX};
    private static final Everything.Maker NEW_UMBRELLA = () -> Schools.with(3);

    public static void main(String[] args) {
        new UmbrellasEdgeTest().runAll();
    }

    /** In all 16 situations once, by wind and then by rain, so that no order is the one of the ranks. */
    private static UmbrellaSchool travelled() {
        UmbrellaSchool school = Schools.with(20);
        for (int i = 0; i < 16; i++) {
            school.train(0, 3 - i % 4, 3 - i / 4, 1);
        }
        return school;
    }

    // ---- promises 10 to 14

    @Sentence(promise = 10, value = "Returns the number of umbrellas.")
    void umbrellaCounts() {
        UmbrellaSchool school = new UmbrellaSchool();
        for (int i = 0; i < 6; i++) {
            equal("umbrellaCount", school.umbrellaCount(), i);
            school.addUmbrella(3);
        }
        equal("the most", school.umbrellaCount(), 6);
        raises("a seventh", BAD_STATE, () -> school.addUmbrella(3));
        equal("after a refused one", school.umbrellaCount(), 6);
        for (int i = 5; i >= 0; i--) {
            school.undo();
            equal("after undo", school.umbrellaCount(), i);
        }
    }

    @Sentence(promise = 11, value = "Throws `IndexOutOfBoundsException` if there is no such umbrella")
    void memoryOfAStranger() {
        refusesStrangers("memory", (school, wrong) -> school.memory(wrong));
    }

    @Sentence(promise = 11, value = "Returns the greatest number of trials that it remembers.")
    void memoriesStay() {
        UmbrellaSchool school = Schools.with(3, 20);
        equal("the least, empty", school.memory(0), 3);
        equal("the greatest, empty", school.memory(1), 20);
        school.train(0, 0, 0, 9);
        for (int i = 0; i < 3; i++) {
            school.train(1, 0, 0, 9);
        }
        equal("the least, full", school.memory(0), 3);
        equal("the greatest, full", school.memory(1), 20);
        equal("it is reached", school.rememberedTrials(1), 20);
        school.forgetRain(1, 0);
        equal("the greatest, forgotten", school.memory(1), 20);
    }

    @Sentence(promise = 12, value = "Throws `IndexOutOfBoundsException` if there is no such umbrella")
    void periodOfAStranger() {
        refusesStrangers("period", (school, wrong) -> school.period(wrong));
    }

    @Sentence(promise = 12, value = "Returns the period.")
    void periods() {
        UmbrellaSchool school = Schools.with(3, 3);
        equal("at first", school.period(0), 0);
        school.setPeriod(0, 9);
        equal("the greatest", school.period(0), 9);
        raises("a greater one", BAD_ARGUMENT, () -> school.setPeriod(0, 10));
        equal("after a refused one", school.period(0), 9);
        school.setPeriod(0, 0);
        equal("the least", school.period(0), 0);
        school.setPeriod(1, 5);
        equal("another one's", school.period(0), 0);
    }

    @Sentence(promise = 13, value = "Throws `IndexOutOfBoundsException` if there is no such umbrella")
    void trialsOfAStranger() {
        refusesStrangers("trials", (school, wrong) -> school.trials(wrong));
    }

    @Sentence(promise = 13, value = "Returns how many trials an umbrella has made so far.")
    void trialsAreNeverForgotten() {
        UmbrellaSchool school = Schools.with(3, 3);
        equal("none yet", school.trials(0), 0);
        school.train(0, 1, 0, 1);
        equal("one", school.trials(0), 1);
        school.train(0, 1, 0, 9);
        equal("more than it remembers", school.trials(0), 10);
        school.forgetRain(0, 1);
        equal("all forgotten", school.trials(0), 10);
        school.endTerm();
        equal("in all terms", school.trials(0), 10);
        equal("another one's", school.trials(1), 0);
        raises("a refused train", BAD_ARGUMENT, () -> school.train(0, 0, 0, 10));
        equal("after a refused train", school.trials(0), 10);
    }

    @Sentence(promise = 14, value = "Throws `IndexOutOfBoundsException` if there is no such umbrella")
    void rememberedTrialsOfAStranger() {
        refusesStrangers("rememberedTrials", (school, wrong) -> school.rememberedTrials(wrong));
    }

    @Sentence(promise = 14, value = "Returns how many trials an umbrella remembers.")
    void rememberedTrialsUpToTheMemory() {
        UmbrellaSchool school = Schools.with(3, 20);
        equal("none yet", school.rememberedTrials(0), 0);
        for (int made = 1; made <= 7; made++) {
            school.train(0, made % 4, 0, 1);
            equal("after " + made, school.rememberedTrials(0), Math.min(3, made));
        }
        equal("after 20 of 20", rememberedAfter(school, 9, 9, 2), 20);
        equal("after 21 of 20", rememberedAfter(school, 1), 20);
        school.forgetRain(1, 0);
        equal("all forgotten", school.rememberedTrials(1), 0);
        equal("not the other one's", school.rememberedTrials(0), 3);
    }

    private static int rememberedAfter(UmbrellaSchool school, int... times) {
        for (int some : times) {
            school.train(1, 0, 0, some);
        }
        return school.rememberedTrials(1);
    }

    // ---- promises 15 to 17

    /** Trials in rain 1, 2, 3, 0, the last two open; three of them are remembered. */
    private static UmbrellaSchool fourTrials() {
        UmbrellaSchool school = Schools.with(3);
        Schools.close(school, 0, 1, 1);
        Schools.close(school, 0, 2, 1);
        Schools.open(school, 0, 3, 1);
        Schools.open(school, 0, 0, 1);
        return school;
    }

    private void findsNoTrial(String what, WithNumber ofUmbrella0) {
        findsNothing(what + " of none", NEW_UMBRELLA, new int[] {MIN, -1, 0, 1, MAX}, ofUmbrella0);
        findsNothing(what + " of 3", UmbrellasEdgeTest::fourTrials,
                new int[] {MIN, -256, -1, 3, 4, 20, 256, 65536, MAX}, ofUmbrella0);
        findsNothing(what + " of 20", UmbrellasEdgeTest::wellTrained, new int[] {-1, 20, 21}, ofUmbrella0);
        findsNothing(what + " of forgotten ones", UmbrellasEdgeTest::forgetful, new int[] {-1, 1, 2}, ofUmbrella0);
    }

    /** 27 trials of which 20 are remembered. */
    private static UmbrellaSchool wellTrained() {
        UmbrellaSchool school = Schools.with(20);
        school.setPeriod(0, 4);
        for (int rain = 1; rain <= 3; rain++) {
            school.train(0, rain, 0, 9);
        }
        return school;
    }

    /** Of three trials in rain 3 and one in rain 1, only the one in rain 1 is remembered. */
    private static UmbrellaSchool forgetful() {
        UmbrellaSchool school = Schools.with(5);
        school.train(0, 3, 0, 2);
        school.train(0, 1, 0, 1);
        school.train(0, 3, 0, 1);
        school.forgetRain(0, 3);
        return school;
    }

    @Sentence(promise = 15, value = "Throws `IndexOutOfBoundsException` if there is no such umbrella")
    void trialRainOfAStranger() {
        refusesStrangers("trialRain", (school, wrong) -> school.trialRain(wrong, 0));
    }

    @Sentence(promise = 15, value = "Throws `NoSuchElementException` if no such trial is remembered")
    void trialRainOfNoTrial() {
        findsNoTrial("trialRain", (school, recency) -> school.trialRain(0, recency));
    }

    @Sentence(promise = 15, value = "0 for the latest remembered trial, 1 for the one before, and so on")
    void trialRains() {
        int[] due = {0, 3, 2};
        for (int recency = 0; recency <= 2; recency++) {
            equal("trialRain " + recency, fourTrials().trialRain(0, recency), due[recency]);
        }
        equal("the latest of 20", wellTrained().trialRain(0, 0), 3);
        equal("the oldest of 20", wellTrained().trialRain(0, 19), 1);
        equal("the only one that is left", forgetful().trialRain(0, 0), 1);
    }

    @Sentence(promise = 16, value = "Throws `IndexOutOfBoundsException` if there is no such umbrella")
    void trialOpenedOfAStranger() {
        refusesStrangers("trialOpened", (school, wrong) -> school.trialOpened(wrong, 0));
    }

    @Sentence(promise = 16, value = "Throws `NoSuchElementException` if no such trial is remembered")
    void trialOpenedOfNoTrial() {
        findsNoTrial("trialOpened", (school, recency) -> school.trialOpened(0, recency));
    }

    @Sentence(promise = 16, value = "0 for the latest remembered trial, 1 for the one before, and so on")
    void trialsOpened() {
        for (int recency = 0; recency <= 2; recency++) {
            equal("trialOpened " + recency, fourTrials().trialOpened(0, recency), recency <= 1);
        }
        // Each fourth trial explores: from trial 5 on the habit is to open in rain 1, so trial 8 stays closed.
        equal("trial 27 of 27", wellTrained().trialOpened(0, 0), true);
        equal("trial 8 of 27 explores", wellTrained().trialOpened(0, 19), false);
        equal("trial 9 of 27", wellTrained().trialOpened(0, 18), true);
        equal("the only one that is left", forgetful().trialOpened(0, 0), false);
    }

    @Sentence(promise = 17, value = "Throws `IndexOutOfBoundsException` if there is no such umbrella")
    void trialRewardOfAStranger() {
        refusesStrangers("trialReward", (school, wrong) -> school.trialReward(wrong, 0));
    }

    @Sentence(promise = 17, value = "Throws `NoSuchElementException` if no such trial is remembered")
    void trialRewardOfNoTrial() {
        findsNoTrial("trialReward", (school, recency) -> school.trialReward(0, recency));
    }

    @Sentence(promise = 17, value = "0 for the latest remembered trial, 1 for the one before, and so on")
    void trialRewards() {
        int[] due = {-3, 9, -4};
        for (int recency = 0; recency <= 2; recency++) {
            equal("trialReward " + recency, fourTrials().trialReward(0, recency), due[recency]);
        }
        equal("the latest of 20", wellTrained().trialReward(0, 0), 12);
        equal("the oldest of 20", wellTrained().trialReward(0, 19), -2);
        equal("the only one that is left", forgetful().trialReward(0, 0), -2);
        UmbrellaSchool school = Schools.with(3);
        school.setGalePenalty(9);
        Schools.open(school, 0, 0, 3);
        Schools.open(school, 0, 3, 0);
        equal("the greatest reward", school.trialReward(0, 0), 12);
        equal("the least reward", school.trialReward(0, 1), -27);
    }

    // ---- promises 18 and 19

    @Sentence(promise = 18, value = "Throws `IllegalArgumentException` if rain or wind is not between 0 and 3")
    void rewardOfNoSituation() {
        refusesSituations("reward open", (school, rain, wind) -> school.reward(rain, wind, true));
        refusesSituations("reward closed", (school, rain, wind) -> school.reward(rain, wind, false));
        refuses("reward with both wrong", BAD_ARGUMENT, NEW, school -> school.reward(-1, 4, true));
    }

    @Sentence(promise = 18, value = "Returns the reward for an action in a situation with the present penalties.")
    void rewardsOfEachPenalty() {
        for (int penalty = 0; penalty <= 9; penalty++) {
            UmbrellaSchool school = new UmbrellaSchool();
            school.setWetPenalty(penalty);
            school.setGalePenalty(9 - penalty);
            for (int i = 0; i < 16; i++) {
                equal("open", school.reward(i / 4, i % 4, true), 4 * (i / 4) - (9 - penalty) * (i % 4));
                equal("closed", school.reward(i / 4, i % 4, false), -penalty * (i / 4));
            }
        }
    }

    @Sentence(promise = 19, value = "Throws `IllegalArgumentException` if rain or wind is not between 0 and 3")
    void shouldOpenInNoSituation() {
        refusesSituations("shouldOpen", (school, rain, wind) -> school.shouldOpen(rain, wind));
        refuses("shouldOpen with both wrong", BAD_ARGUMENT, NEW, school -> school.shouldOpen(4, -1));
    }

    @Sentence(promise = 19, value = "Returns true if it should open.")
    void shouldOpenWithEachPenalty() {
        for (int wet = 0; wet <= 9; wet++) {
            for (int gale = 0; gale <= 9; gale++) {
                UmbrellaSchool school = new UmbrellaSchool();
                school.setWetPenalty(wet);
                school.setGalePenalty(gale);
                for (int i = 0; i < 16; i++) {
                    int rain = i / 4;
                    int wind = i % 4;
                    equal("rain " + rain + ", wind " + wind + ", penalties " + wet + gale,
                            school.shouldOpen(rain, wind), 4 * rain - gale * wind > -wet * rain);
                }
            }
        }
    }

    // ---- promises 20 to 25

    @Sentence(promise = 20, value = "Throws `IndexOutOfBoundsException` if there is no such umbrella")
    void wouldOpenOfAStranger() {
        refusesStrangers("wouldOpen", (school, wrong) -> school.wouldOpen(wrong, 3, 3));
    }

    @Sentence(promise = 20, value = "Throws `IllegalArgumentException` if rain or wind is not between 0 and 3")
    void wouldOpenInNoSituation() {
        refusesSituations("wouldOpen", (school, rain, wind) -> school.wouldOpen(1, rain, wind));
    }

    @Sentence(promise = 20, value = "Returns true if its habit is to open.")
    void wouldOpenInOneSituation() {
        for (int i = 0; i < 16; i++) {
            UmbrellaSchool school = Schools.with(3, 3);
            Schools.open(school, 1, i / 4, i % 4);
            for (int asked = 0; asked < 16; asked++) {
                equal("opened in " + i + ", asked for " + asked, school.wouldOpen(1, asked / 4, asked % 4), asked == i);
                equal("another umbrella", school.wouldOpen(0, asked / 4, asked % 4), false);
            }
        }
    }

    @Sentence(promise = 21, value = "Throws `IndexOutOfBoundsException` if there is no such umbrella")
    void exploresNextOfAStranger() {
        refusesStrangers("exploresNext", (school, wrong) -> school.exploresNext(wrong));
    }

    @Sentence(promise = 21, value = "Returns whether an umbrella explores in its next trial.")
    void exploresNextByTheNumberOfTheNextTrial() {
        for (int made = 0; made <= 9; made++) {
            for (int period = 0; period <= 9; period++) {
                UmbrellaSchool school = Schools.with(3);
                if (made > 0) {
                    school.train(0, 1, 0, made);
                }
                school.setPeriod(0, period);
                equal("period " + period + " after " + made, school.exploresNext(0),
                        period > 0 && (made + 1) % period == 0);
                school.forgetRain(0, 1);
                equal("all forgotten, period " + period + " after " + made, school.exploresNext(0),
                        period > 0 && (made + 1) % period == 0);
            }
        }
    }

    @Sentence(promise = 22, value = "Throws `IndexOutOfBoundsException` if there is no such umbrella")
    void timesTriedOfAStranger() {
        refusesStrangers("timesTried", (school, wrong) -> school.timesTried(wrong, 3, 3, false));
    }

    @Sentence(promise = 22, value = "Throws `IllegalArgumentException` if rain or wind is not between 0 and 3")
    void timesTriedInNoSituation() {
        refusesSituations("timesTried open", (school, rain, wind) -> school.timesTried(1, rain, wind, true));
        refusesSituations("timesTried closed", (school, rain, wind) -> school.timesTried(1, rain, wind, false));
    }

    @Sentence(promise = 22, value = "Returns how many remembered trials an umbrella has made in a situation with an action.")
    void timesTriedUpToTheMemory() {
        for (int i = 0; i < 32; i++) {
            UmbrellaSchool school = Schools.with(4);
            for (int made = 1; made <= 5; made++) {
                Schools.act(school, 0, i / 8, i / 2 % 4, i % 2 == 1);
                equal("case " + i, school.timesTried(0, i / 8, i / 2 % 4, i % 2 == 1), Math.min(made, 4));
                equal("the other action", school.timesTried(0, i / 8, i / 2 % 4, i % 2 == 0), 0);
            }
            school.forgetRain(0, i / 8);
            equal("all forgotten", school.timesTried(0, i / 8, i / 2 % 4, i % 2 == 1), 0);
        }
        UmbrellaSchool school = Schools.with(20);
        equal("nothing yet", school.timesTried(0, 0, 0, false), 0);
        equal("20 of 27", rainyTrials(school).timesTried(0, 3, 0, false), 20);
    }

    private static UmbrellaSchool rainyTrials(UmbrellaSchool school) {
        for (int i = 0; i < 3; i++) {
            school.train(0, 3, 0, 9);
        }
        return school;
    }

    @Sentence(promise = 23, value = "Throws `IndexOutOfBoundsException` if there is no such umbrella")
    void rewardSumOfAStranger() {
        refusesStrangers("rewardSum", (school, wrong) -> school.rewardSum(wrong, 3, 3, false));
    }

    @Sentence(promise = 23, value = "Throws `IllegalArgumentException` if rain or wind is not between 0 and 3")
    void rewardSumInNoSituation() {
        refusesSituations("rewardSum open", (school, rain, wind) -> school.rewardSum(1, rain, wind, true));
        refusesSituations("rewardSum closed", (school, rain, wind) -> school.rewardSum(1, rain, wind, false));
    }

    @Sentence(promise = 23, value = "Returns a reward sum, as it was kept up to date with each trial and each forgotten trial.")
    void rewardSumsKeepUp() {
        UmbrellaSchool school = Schools.with(3);
        equal("nothing yet", school.rewardSum(0, 3, 0, false), 0);
        int[] penalties = {9, 1, 4, 0, 7};
        int[] due = {-27, -30, -42, -15, -33};
        for (int i = 0; i < penalties.length; i++) {
            school.setWetPenalty(penalties[i]);
            school.train(0, 3, 0, 1);
            equal("after trial " + (i + 1), school.rewardSum(0, 3, 0, false), due[i]);
            equal("the other action", school.rewardSum(0, 3, 0, true), 0);
        }
        school.undo();
        school.undo();
        equal("after undo", school.rewardSum(0, 3, 0, false), -15);
        school.forgetRain(0, 3);
        equal("all forgotten", school.rewardSum(0, 3, 0, false), 0);
        school.train(0, 3, 0, 1);
        equal("begun anew", school.rewardSum(0, 3, 0, false), 0);
        UmbrellaSchool most = Schools.with(20);
        most.setWetPenalty(9);
        equal("the least sum", rainyTrials(most).rewardSum(0, 3, 0, false), 20 * -27);
    }

    @Sentence(promise = 24, value = "Throws `IndexOutOfBoundsException` if there is no such umbrella")
    void rewardSumByTrialsOfAStranger() {
        refusesStrangers("rewardSumByTrials", (school, wrong) -> school.rewardSumByTrials(wrong, 3, 3, false));
    }

    @Sentence(promise = 24, value = "Throws `IllegalArgumentException` if rain or wind is not between 0 and 3")
    void rewardSumByTrialsInNoSituation() {
        refusesSituations("rewardSumByTrials open",
                (school, rain, wind) -> school.rewardSumByTrials(1, rain, wind, true));
        refusesSituations("rewardSumByTrials closed",
                (school, rain, wind) -> school.rewardSumByTrials(1, rain, wind, false));
    }

    @Sentence(promise = 24, value = "Returns the same number as rewardSum, added up from the remembered trials.")
    void bothSumsAreTheSame() {
        equal("nothing yet", Schools.with(3).rewardSumByTrials(0, 3, 0, false), 0);
        for (Everything.Maker maker : new Everything.Maker[] {
            UmbrellasEdgeTest::fourTrials, UmbrellasEdgeTest::wellTrained, UmbrellasEdgeTest::forgetful,
            UmbrellasEdgeTest::travelled, BUSY}) {
            UmbrellaSchool school = maker.make();
            for (int i = 0; i < 32; i++) {
                equal("case " + i, school.rewardSumByTrials(0, i / 8, i / 2 % 4, i % 2 == 1),
                        school.rewardSum(0, i / 8, i / 2 % 4, i % 2 == 1));
            }
        }
        equal("an open one", fourTrials().rewardSumByTrials(0, 3, 1, true), 9);
        equal("not a closed one", fourTrials().rewardSumByTrials(0, 3, 1, false), 0);
        equal("a forgotten one", fourTrials().rewardSumByTrials(0, 1, 1, false), 0);
        equal("the oldest one", fourTrials().rewardSumByTrials(0, 2, 1, false), -4);
        equal("the latest one", fourTrials().rewardSumByTrials(0, 0, 1, true), -3);
        UmbrellaSchool most = Schools.with(20);
        most.setWetPenalty(9);
        equal("the least sum", rainyTrials(most).rewardSumByTrials(0, 3, 0, false), 20 * -27);
    }

    @Sentence(promise = 25, value = "Throws `IndexOutOfBoundsException` if there is no such umbrella")
    void meanRewardOfAStranger() {
        refusesStrangers("meanReward", (school, wrong) -> school.meanReward(wrong, 3, 3, false));
    }

    @Sentence(promise = 25, value = "Throws `IllegalArgumentException` if rain or wind is not between 0 and 3")
    void meanRewardInNoSituation() {
        refusesSituations("meanReward open", (school, rain, wind) -> school.meanReward(1, rain, wind, true));
        refusesSituations("meanReward closed", (school, rain, wind) -> school.meanReward(1, rain, wind, false));
    }

    @Sentence(promise = 25, value = "Throws `NoSuchElementException` if no such trial is remembered")
    void meanRewardOfNoTrial() {
        refuses("meanReward of a new one", NO_ELEMENT, NEW_UMBRELLA, school -> school.meanReward(0, 0, 0, false));
        refuses("meanReward of the other action", NO_ELEMENT, UmbrellasEdgeTest::fourTrials,
                school -> school.meanReward(0, 3, 1, false));
        refuses("meanReward in another wind", NO_ELEMENT, UmbrellasEdgeTest::fourTrials,
                school -> school.meanReward(0, 3, 2, true));
        refuses("meanReward of a trial beyond the memory", NO_ELEMENT, UmbrellasEdgeTest::fourTrials,
                school -> school.meanReward(0, 1, 1, false));
        refuses("meanReward of a forgotten trial", NO_ELEMENT, UmbrellasEdgeTest::forgetful,
                school -> school.meanReward(0, 3, 0, false));
        refuses("meanReward of another one's trial", NO_ELEMENT, BUSY, school -> school.meanReward(1, 3, 1, true));
    }

    @Sentence(promise = 25, value = "Returns a mean reward: the reward sum divided by the number of these trials, both converted to double.")
    void meanRewards() {
        equal("of one", fourTrials().meanReward(0, 3, 1, true), 9.0);
        UmbrellaSchool school = Schools.with(3);
        school.train(0, 0, 3, 1);
        equal("0 is 0.0, not -0.0", school.meanReward(0, 0, 3, false), 0.0);
        school.setWetPenalty(1);
        school.train(0, 1, 0, 2);
        school.setWetPenalty(2);
        school.train(0, 1, 0, 1);
        equal("-4/3", school.meanReward(0, 1, 0, false), -4.0 / 3.0);
        equal("more exactly than as float", (double) (float) (-4.0 / 3.0) == school.meanReward(0, 1, 0, false), false);
        school.train(0, 1, 0, 1);
        equal("the oldest one is left out", school.meanReward(0, 1, 0, false), -5.0 / 3.0);
        UmbrellaSchool least = Schools.with(20);
        least.setWetPenalty(9);
        equal("the least mean", rainyTrials(least).meanReward(0, 3, 0, false), -27.0);
    }

    // ---- promises 26 to 29

    @Sentence(promise = 26, value = "Throws `IndexOutOfBoundsException` if there is no such umbrella")
    void rightHabitsOfAStranger() {
        refusesStrangers("rightHabits", (school, wrong) -> school.rightHabits(wrong));
    }

    @Sentence(promise = 26, value = "Returns the number of situations in which its habit is to open exactly if it should open.")
    void rightHabitsFrom0To16() {
        UmbrellaSchool school = Schools.with(20);
        school.setGalePenalty(0);
        school.setWetPenalty(9);
        equal("closed is right in rain 0", school.rightHabits(0), 4);
        for (int i = 4; i < 16; i++) {
            Schools.open(school, 0, i / 4, i % 4);
            equal("one more is right", school.rightHabits(0), i + 1);
        }
        school.setGalePenalty(9);
        school.setWetPenalty(0);
        // It should open in wind 0 from rain 1 on, and in rain 3, wind 1.
        equal("only these and rain 0 are right", school.rightHabits(0), 4 + 4);
        UmbrellaSchool wrong = Schools.with(20);
        wrong.setGalePenalty(9);
        wrong.setWetPenalty(0);
        equal("only the 4 where it should open are wrong", wrong.rightHabits(0), 12);
        for (int i = 0; i < 16; i++) {
            boolean pays = i % 4 == 0 && i > 0 || i == 13;
            if (!pays) {
                Schools.open(wrong, 0, i / 4, i % 4);
            }
        }
        equal("all are wrong", wrong.rightHabits(0), 0);
    }

    @Sentence(promise = 27, value = "Throws `IndexOutOfBoundsException` if there is no such umbrella")
    void knownSituationsOfAStranger() {
        refusesStrangers("knownSituations", (school, wrong) -> school.knownSituations(wrong));
    }

    @Sentence(promise = 27, value = "Returns in how many different situations the remembered trials of an umbrella were made.")
    void knownSituationsFrom0To16() {
        UmbrellaSchool school = Schools.with(20);
        equal("none yet", school.knownSituations(0), 0);
        for (int i = 0; i < 16; i++) {
            Schools.act(school, 0, i % 4, i / 4, i % 3 == 0);
            equal("one more", school.knownSituations(0), i + 1);
        }
        Schools.open(school, 0, 1, 0);
        equal("both actions are one situation", school.knownSituations(0), 16);
        school.train(0, 3, 3, 9);
        equal("6 of 26 trials are forgotten, one of a situation that is known by another", school.knownSituations(0), 11);
        school.forgetRain(0, 3);
        equal("without rain 3", school.knownSituations(0), 8);
        equal("all in one situation", rainyTrials(school).knownSituations(0), 1);
        school.forgetRain(0, 3);
        equal("none any more", school.knownSituations(0), 0);
    }

    private void findsNoSituation(String what, WithNumber ofUmbrella0) {
        findsNothing(what + " of none", NEW_UMBRELLA, new int[] {MIN, -1, 0, 1, 15, 16, MAX}, ofUmbrella0);
        findsNothing(what + " of 3", UmbrellasEdgeTest::fourTrials, new int[] {-1, 3, 4, 15, 16}, ofUmbrella0);
        findsNothing(what + " of 16", UmbrellasEdgeTest::travelled, NO_RANKS, ofUmbrella0);
        findsNothing(what + " of forgotten ones", UmbrellasEdgeTest::forgetful, new int[] {-1, 1, 2}, ofUmbrella0);
    }

    /** Rain 2, wind 3 thrice, rain 0, wind 1 and rain 2, wind 2 twice, rain 0, wind 0 once. */
    private static UmbrellaSchool fourSituations() {
        UmbrellaSchool school = Schools.with(8);
        school.train(0, 3, 3, 9);
        school.train(0, 0, 0, 1);
        school.train(0, 2, 2, 1);
        Schools.open(school, 0, 2, 2);
        school.train(0, 0, 1, 2);
        school.train(0, 2, 3, 2);
        Schools.act(school, 0, 2, 3, !school.wouldOpen(0, 2, 3));
        return school;
    }

    /** The digits of due are the answers at the ranks from 0 on; behind them there is no rank. */
    private void ranks(String what, Everything.Maker maker, String due, WithNumber call) {
        for (int rank = 0; rank < due.length(); rank++) {
            equal(what + ", rank " + rank, call.ask(maker.make(), rank), due.charAt(rank) - '0');
        }
        raises(what + ", one rank more", NO_ELEMENT, () -> call.ask(maker.make(), due.length()));
    }

    private static UmbrellaSchool travelledTwiceToTheLast() {
        UmbrellaSchool school = travelled();
        school.train(0, 3, 3, 1);
        return school;
    }

    @Sentence(promise = 28, value = "Throws `IndexOutOfBoundsException` if there is no such umbrella")
    void situationRainOfAStranger() {
        refusesStrangers("situationRain", (school, wrong) -> school.situationRain(wrong, 0));
    }

    @Sentence(promise = 28, value = "Throws `NoSuchElementException` if there is no such rank")
    void situationRainOfNoRank() {
        findsNoSituation("situationRain", (school, rank) -> school.situationRain(0, rank));
    }

    @Sentence(promise = 28, value = "sorted by the number of these trials in descending order, then by rain in ascending order, then by wind in ascending order.")
    void rainsAreRanked() {
        WithNumber call = (school, rank) -> school.situationRain(0, rank);
        ranks("all once", UmbrellasEdgeTest::travelled, "0000111122223333", call);
        ranks("the last one twice", UmbrellasEdgeTest::travelledTwiceToTheLast, "3000011112222333", call);
        ranks("by number, rain and wind", UmbrellasEdgeTest::fourSituations, "2020", call);
        ranks("the only one that is left", UmbrellasEdgeTest::forgetful, "1", call);
        ranks("the remembered ones", UmbrellasEdgeTest::fourTrials, "023", call);
        ranks("rain 2 and 3 nine times, 1 twice", UmbrellasEdgeTest::wellTrained, "231", call);
    }

    @Sentence(promise = 29, value = "Throws `IndexOutOfBoundsException` if there is no such umbrella")
    void situationWindOfAStranger() {
        refusesStrangers("situationWind", (school, wrong) -> school.situationWind(wrong, 0));
    }

    @Sentence(promise = 29, value = "Returns the wind of the known situation at a rank of the same order as for situationRain.")
    void windsAreRanked() {
        WithNumber call = (school, rank) -> school.situationWind(0, rank);
        ranks("all once", UmbrellasEdgeTest::travelled, "0123012301230123", call);
        ranks("the last one twice", UmbrellasEdgeTest::travelledTwiceToTheLast, "3012301230123012", call);
        ranks("by number, rain and wind", UmbrellasEdgeTest::fourSituations, "3120", call);
        ranks("the only one that is left", UmbrellasEdgeTest::forgetful, "0", call);
        ranks("the remembered ones", UmbrellasEdgeTest::fourTrials, "111", call);
    }

    @Sentence(promise = 29, value = "Throws `NoSuchElementException` if there is no such rank")
    void situationWindOfNoRank() {
        findsNoSituation("situationWind", (school, rank) -> school.situationWind(0, rank));
    }

    // ---- promises 30 to 35

    @Sentence(promise = 30, value = "Throws `IndexOutOfBoundsException` if there is no such umbrella")
    void hasExamOfAStranger() {
        refusesStrangers("hasExam", (school, wrong) -> school.hasExam(wrong, 3));
    }

    @Sentence(promise = 30, value = "Throws `IllegalArgumentException` if wind is not between 0 and 3")
    void hasExamForWrongWind() {
        refusesNumbers("hasExam", new int[] {MIN, -1, 4, 31, 32, 35, 256, 65536, MAX},
                (school, wrong) -> school.hasExam(1, wrong));
    }

    @Sentence(promise = 30, value = "Returns true if it passed its latest exam for this wind.")
    void examsOfEachWind() {
        for (int wind = 0; wind <= 3; wind++) {
            UmbrellaSchool school = Schools.with(4, 4);
            school.setGalePenalty(0);
            for (int rain = 1; rain <= 3; rain++) {
                Schools.open(school, 1, rain, wind);
            }
            equal("not examined yet", school.hasExam(1, wind), false);
            school.examine(1, wind);
            for (int asked = 0; asked <= 3; asked++) {
                equal("exam " + wind + ", asked for " + asked, school.hasExam(1, asked), asked == wind);
                equal("another umbrella", school.hasExam(0, asked), false);
            }
            school.forgetRain(1, 3);
            school.examine(1, wind);
            equal("the latest exam with 3", school.hasExam(1, wind), true);
            school.forgetRain(1, 2);
            school.examine(1, wind);
            equal("the latest exam with 2", school.hasExam(1, wind), false);
            school.undo();
            equal("the one before again", school.hasExam(1, wind), true);
        }
    }

    @Sentence(promise = 31, value = "Throws `IndexOutOfBoundsException` if there is no such umbrella")
    void isGraduateOfAStranger() {
        refusesStrangers("isGraduate", (school, wrong) -> school.isGraduate(wrong));
    }

    @Sentence(promise = 31, value = "Returns true if it has exams for all winds.")
    void graduatesLoseTheirTitle() {
        for (int lost = 0; lost <= 3; lost++) {
            UmbrellaSchool school = Schools.with(20);
            school.setGalePenalty(0);
            equal("no exam", school.isGraduate(0), false);
            for (int i = 4; i < 16; i++) {
                Schools.open(school, 0, i / 4, i % 4);
            }
            for (int wind = 3; wind >= 0; wind--) {
                equal(3 - wind + " exams", school.isGraduate(0), false);
                school.examine(0, wind);
            }
            equal("4 exams", school.isGraduate(0), true);
            school.forgetRain(0, 1);
            school.forgetRain(0, 2);
            equal("until the next exam", school.isGraduate(0), true);
            school.examine(0, lost);
            equal("3 exams again", school.isGraduate(0), false);
        }
    }

    @Sentence(promise = 32, value = "Throws `IndexOutOfBoundsException` if there is no such umbrella")
    void totalRewardOfAStranger() {
        refusesStrangers("totalReward", (school, wrong) -> school.totalReward(wrong));
    }

    @Sentence(promise = 32, value = "Returns the sum of the rewards of all its trials.")
    void totalRewardsOfForgottenTrialsToo() {
        UmbrellaSchool school = Schools.with(3, 3);
        equal("no trial", school.totalReward(0), 0);
        school.train(0, 3, 0, 9);
        equal("more trials than it remembers", school.totalReward(0), -54);
        school.forgetRain(0, 3);
        equal("all forgotten", school.totalReward(0), -54);
        Schools.open(school, 0, 3, 0);
        school.endTerm();
        equal("in all terms", school.totalReward(0), -42);
        equal("another one's", school.totalReward(1), 0);
        school.undo();
        school.undo();
        equal("after undo", school.totalReward(0), -54);
    }

    @Sentence(promise = 33, value = "Throws `IndexOutOfBoundsException` if there is no such umbrella")
    void termRewardOfAStranger() {
        refusesStrangers("termReward", (school, wrong) -> school.termReward(wrong));
    }

    @Sentence(promise = 33, value = "Returns the sum of the rewards of its trials in this term.")
    void termRewardsOfThisTerm() {
        UmbrellaSchool school = Schools.with(3, 3);
        equal("no trial", school.termReward(0), 0);
        school.train(0, 3, 0, 9);
        equal("in term 0", school.termReward(0), -54);
        school.forgetRain(0, 3);
        equal("all forgotten", school.termReward(0), -54);
        school.endTerm();
        equal("in term 1", school.termReward(0), 0);
        school.train(0, 1, 0, 1);
        equal("one trial in term 1", school.termReward(0), -2);
        school.undo();
        school.undo();
        equal("in term 0 again", school.termReward(0), -54);
    }

    @Sentence(promise = 34, value = "Throws `IndexOutOfBoundsException` if there is no such umbrella")
    void starsOfAStranger() {
        refusesStrangers("stars", (school, wrong) -> school.stars(wrong));
    }

    @Sentence(promise = 34, value = "Returns the number of stars.")
    void starsFromZero() {
        UmbrellaSchool school = Schools.with(3, 3);
        equal("none yet", school.stars(0), 0);
        for (int i = 1; i <= 20; i++) {
            school.endTerm();
            equal("one more", school.stars(0), i);
        }
        equal("none for the other one", school.stars(1), 0);
        school.undo();
        equal("after undo", school.stars(0), 19);
    }

    @Sentence(promise = 35, value = "Throws `NoSuchElementException` if there is no such rank")
    void umbrellasOfNoRank() {
        findsNothing("umbrellaByStars of none", NEW, new int[] {MIN, -1, 0, 1, 5, MAX},
                (school, rank) -> school.umbrellaByStars(rank));
        findsNothing("umbrellaByStars of 2", TYPING, new int[] {MIN, -256, -1, 2, 3, 5, 6, 256, 65536, MAX},
                (school, rank) -> school.umbrellaByStars(rank));
        findsNothing("umbrellaByStars of 6", FULL, new int[] {-1, 6, 7},
                (school, rank) -> school.umbrellaByStars(rank));
    }

    private void umbrellaRanks(String what, UmbrellaSchool school, int... due) {
        for (int rank = 0; rank < due.length; rank++) {
            equal(what + ", rank " + rank, school.umbrellaByStars(rank), due[rank]);
        }
        raises(what + ", one more", NO_ELEMENT, () -> school.umbrellaByStars(due.length));
    }

    @Sentence(promise = 35, value = "sorted by stars in descending order, then by total reward in descending order, then by index in ascending order.")
    void umbrellasAreRanked() {
        umbrellaRanks("the only one", Schools.with(3), 0);
        UmbrellaSchool school = Schools.with(3, 3, 3, 3, 3, 3);
        umbrellaRanks("all the same", school, 0, 1, 2, 3, 4, 5);
        Schools.close(school, 0, 1, 0);
        Schools.open(school, 5, 1, 0);
        Schools.open(school, 2, 1, 0);
        umbrellaRanks("by total reward, then by index", school, 2, 5, 1, 3, 4, 0);
        Schools.open(school, 4, 3, 0);
        school.endTerm();
        Schools.close(school, 4, 3, 0);
        Schools.close(school, 4, 3, 0);
        umbrellaRanks("a star before total rewards", school, 4, 2, 5, 1, 3, 0);
        school.endTerm();
        umbrellaRanks("of two with a star the greater reward", school, 4, 0, 2, 5, 1, 3);
        Schools.close(school, 4, 3, 0);
        umbrellaRanks("the other one's reward is greater now", school, 0, 4, 2, 5, 1, 3);
        Schools.open(school, 4, 3, 0);
        school.endTerm();
        Schools.close(school, 4, 3, 0);
        Schools.close(school, 4, 3, 0);
        umbrellaRanks("two stars and -6 before one star and -2", school, 4, 0, 2, 5, 1, 3);
    }
}
