/** The edges in the document's sections before promise 1, but for those of scripts and of changes. */
public final class TermsEdgeTest extends Edges {
    public static void main(String[] args) {
        new TermsEdgeTest().runAll();
    }

    // ---- what it is

    @Sentence(promise = 0, value = "An object is used for at most 512 calls after it has been made")
    void the512thCallAnswers() {
        UmbrellaSchool trained = Schools.with(20);
        trained.setWetPenalty(9);
        for (int i = 0; i < 508; i++) {
            trained.train(0, 3, 3, 9);
        }
        equal("trials, call 511", trained.trials(0), 508 * 9);
        equal("totalReward, call 512", trained.totalReward(0), 508 * 9 * -27);
        UmbrellaSchool ended = Schools.with(3);
        for (int i = 0; i < 510; i++) {
            ended.endTerm();
        }
        equal("stars, call 512", ended.stars(0), 510);
        UmbrellaSchool undone = Schools.with(3);
        for (int i = 0; i < 255; i++) {
            undone.setWetPenalty(9);
            undone.undo();
        }
        equal("wetPenalty, call 512", undone.wetPenalty(), 2);
    }

    @Sentence(promise = 0, value = "An object is used for at most 512 calls after it has been made")
    void the512thCallEndsAScript() {
        UmbrellaSchool school = Schools.with(3);
        for (int i = 0; i < 102; i++) {
            equal("the script", Schools.run(school, i % 2 == 0 ? "term" : "tern"), i % 2 == 0 ? 1 : BAD_ARGUMENT);
        }
        equal("term, call 512", school.term(), 51);
    }

    // ---- situations and rewards

    @Sentence(promise = 0, value = "A situation is a rain from 0 to 3 and a wind from 0 to 3.")
    void thereAre16Situations() {
        UmbrellaSchool school = new UmbrellaSchool();
        for (int rain = -1; rain <= 4; rain++) {
            for (int wind = -1; wind <= 4; wind++) {
                boolean isSituation = rain >= 0 && rain <= 3 && wind >= 0 && wind <= 3;
                int r = rain;
                int w = wind;
                Object answer = Checks.answerOf(() -> school.reward(r, w, true));
                equal("rain " + r + ", wind " + w, answer, isSituation ? (Object) (4 * r - 3 * w) : BAD_ARGUMENT);
            }
        }
    }

    @Sentence(promise = 0, value = "The reward for opening is 4 times the rain minus the gale penalty times the wind")
    void rewardsForOpening() {
        UmbrellaSchool school = new UmbrellaSchool();
        equal("no rain, no wind", school.reward(0, 0, true), 0);
        equal("most rain, no wind", school.reward(3, 0, true), 12);
        equal("no rain, most wind", school.reward(0, 3, true), -9);
        equal("most of both", school.reward(3, 3, true), 3);
        school.setGalePenalty(9);
        equal("the least of all", school.reward(0, 3, true), -27);
        equal("most of both, gale penalty 9", school.reward(3, 3, true), -15);
        school.setGalePenalty(0);
        equal("most of both, gale penalty 0", school.reward(3, 3, true), 12);
        school.setWetPenalty(9);
        equal("the wet penalty does not count", school.reward(3, 1, true), 12);
    }

    @Sentence(promise = 0, value = "the reward for staying closed is 0 minus the wet penalty times the rain")
    void rewardsForStayingClosed() {
        UmbrellaSchool school = new UmbrellaSchool();
        equal("no rain, no wind", school.reward(0, 0, false), 0);
        equal("no rain, most wind", school.reward(0, 3, false), 0);
        equal("most rain, no wind", school.reward(3, 0, false), -6);
        equal("most of both", school.reward(3, 3, false), -6);
        school.setWetPenalty(9);
        equal("the least of all", school.reward(3, 0, false), -27);
        school.setWetPenalty(0);
        equal("most rain, wet penalty 0", school.reward(3, 3, false), 0);
        school.setGalePenalty(9);
        equal("the gale penalty does not count", school.reward(3, 3, false), 0);
    }

    @Sentence(promise = 0, value = "Both penalties are from 0 to 9; initially the wet penalty is 2 and the gale penalty is 3.")
    void penaltiesAreDigits() {
        UmbrellaSchool school = new UmbrellaSchool();
        equal("the first wet penalty", school.wetPenalty(), 2);
        equal("the first gale penalty", school.galePenalty(), 3);
        equal("the first wet penalty counts", school.reward(1, 0, false), -2);
        equal("the first gale penalty counts", school.reward(0, 1, true), -3);
        for (int penalty = -1; penalty <= 10; penalty++) {
            int p = penalty;
            boolean isPenalty = p >= 0 && p <= 9;
            equal("wet " + p, Checks.answerOf(() -> school.setWetPenalty(p)) != BAD_ARGUMENT, isPenalty);
            equal("gale " + p, Checks.answerOf(() -> school.setGalePenalty(p)) != BAD_ARGUMENT, isPenalty);
        }
    }

    @Sentence(promise = 0, value = "An umbrella should open in a situation if the reward for opening is greater than the reward for staying closed.")
    void equalRewardsAreNotGreater() {
        UmbrellaSchool school = new UmbrellaSchool();
        equal("0 against 0", school.shouldOpen(0, 0), false);
        equal("-2 against -2", school.shouldOpen(1, 2), false);
        equal("1 against -2", school.shouldOpen(1, 1), true);
        equal("-5 against -2", school.shouldOpen(1, 3), false);
        equal("-3 against 0", school.shouldOpen(0, 1), false);
        school.setWetPenalty(0);
        school.setGalePenalty(4);
        equal("0 against 0 in rain 3, wind 3", school.shouldOpen(3, 3), false);
        school.setWetPenalty(1);
        equal("0 against -3", school.shouldOpen(3, 3), true);
        school.setGalePenalty(5);
        equal("-3 against -3", school.shouldOpen(3, 3), false);
    }

    // ---- umbrellas and habits

    @Sentence(promise = 0, value = "At most 6 umbrellas have the indices 0 to n - 1 in the order in which they were added; umbrellas are never removed.")
    void indicesOfUmbrellas() {
        UmbrellaSchool school = new UmbrellaSchool();
        for (int n = 0; n <= 6; n++) {
            equal("umbrellaCount", school.umbrellaCount(), n);
            for (int i = 0; i < n; i++) {
                equal("the memory of umbrella " + i + " of " + n, school.memory(i), 10 + i);
            }
            int behind = n;
            raises("umbrella " + n + " of " + n, NO_INDEX, () -> school.memory(behind));
            raises("umbrella -1 of " + n, NO_INDEX, () -> school.memory(-1));
            int memory = 10 + n;
            equal("addUmbrella to " + n, Checks.answerOf(() -> school.addUmbrella(memory)), n < 6 ? (Object) n : BAD_STATE);
        }
        for (int i = 0; i < 6; i++) {
            school.train(i, 3, 0, 1);
            school.forgetRain(i, 3);
            school.endTerm();
        }
        equal("none is removed", school.umbrellaCount(), 6);
    }

    @Sentence(promise = 0, value = "An umbrella has a memory from 3 to 20, which is the number of trials that it remembers at most")
    void memoriesHoldTheirNumberOfTrials() {
        for (int memory = 3; memory <= 20; memory++) {
            UmbrellaSchool school = Schools.with(memory);
            for (int made = 1; made <= 2 * memory + 1; made++) {
                school.train(0, 1, 0, 1);
                equal("memory " + memory + " after " + made, school.rememberedTrials(0), Math.min(made, memory));
            }
            equal("all are counted", school.timesTried(0, 1, 0, false), memory);
        }
    }

    @Sentence(promise = 0, value = "when it would remember more trials, it forgets the oldest one")
    void theOldestTrialsAreForgotten() {
        for (int memory : new int[] {3, 4, 19, 20}) {
            for (int made : new int[] {memory - 1, memory, memory + 1, 2 * memory, 2 * memory + 1, 3 * memory + 2}) {
                UmbrellaSchool school = Schools.with(memory);
                for (int i = 0; i < made; i++) {
                    school.setWetPenalty(i % 7);
                    school.train(0, 1 + i % 3, i % 4, 1);
                }
                for (int recency = 0; recency < Math.min(made, memory); recency++) {
                    int i = made - 1 - recency;
                    String what = "memory " + memory + ", " + made + " trials, recency " + recency;
                    equal(what + ", rain", school.trialRain(0, recency), 1 + i % 3);
                    equal(what + ", reward", school.trialReward(0, recency), -(1 + i % 3) * (i % 7));
                }
                int none = Math.min(made, memory);
                raises("one more", NO_ELEMENT, () -> school.trialRain(0, none));
                equal("the sums too", school.isConsistent(), true);
            }
        }
    }

    @Sentence(promise = 0, value = "when it would remember more trials, it forgets the oldest one")
    void onlyOneTrialIsForgotten() {
        UmbrellaSchool school = Schools.with(3);
        school.train(0, 3, 0, 1);
        school.train(0, 2, 0, 2);
        equal("full", school.timesTried(0, 3, 0, false), 1);
        school.train(0, 1, 0, 1);
        equal("the oldest one", school.timesTried(0, 3, 0, false), 0);
        equal("its reward", school.rewardSum(0, 3, 0, false), 0);
        equal("not the next one", school.timesTried(0, 2, 0, false), 2);
        equal("nor its reward", school.rewardSum(0, 2, 0, false), -8);
    }

    @Sentence(promise = 0, value = "It also has a period from 0 to 9, initially 0.")
    void periodsAreDigits() {
        UmbrellaSchool school = Schools.with(3, 20);
        equal("the first period of 0", school.period(0), 0);
        equal("the first period of 1", school.period(1), 0);
        for (int period = -1; period <= 10; period++) {
            int p = period;
            boolean isPeriod = p >= 0 && p <= 9;
            equal("period " + p, Checks.answerOf(() -> school.setPeriod(0, p)) != BAD_ARGUMENT, isPeriod);
            equal("after " + p, school.period(0), Math.min(Math.max(p, 0), 9));
        }
    }

    @Sentence(promise = 0, value = "the reward sum is the sum of the rewards of all remembered trials in this situation with this action")
    void rewardSumsAreOfOneSituationAndAction() {
        UmbrellaSchool school = Schools.with(20);
        equal("of nothing", school.rewardSum(0, 2, 1, true), 0);
        Schools.open(school, 0, 2, 1);
        equal("of one", school.rewardSum(0, 2, 1, true), 5);
        Schools.close(school, 0, 2, 1);
        Schools.open(school, 0, 1, 2);
        Schools.open(school, 0, 1, 1);
        Schools.open(school, 0, 3, 1);
        Schools.open(school, 0, 2, 0);
        Schools.open(school, 0, 2, 2);
        equal("the neighbours don't count", school.rewardSum(0, 2, 1, true), 5);
        equal("the other action", school.rewardSum(0, 2, 1, false), -4);
        equal("nothing with the other action", school.rewardSum(0, 1, 2, false), 0);
        school.setGalePenalty(0);
        Schools.open(school, 0, 2, 1);
        equal("of two", school.rewardSum(0, 2, 1, true), 13);
    }

    @Sentence(promise = 0, value = "The habit of an umbrella in a situation is to open if it remembers a trial in which it opened in this situation")
    void habitWithoutAnOpening() {
        UmbrellaSchool school = Schools.with(3);
        equal("nothing remembered", school.wouldOpen(0, 3, 0), false);
        Schools.close(school, 0, 3, 0);
        equal("only a bad closed trial", school.wouldOpen(0, 3, 0), false);
        Schools.open(school, 0, 2, 0);
        Schools.open(school, 0, 3, 1);
        equal("opened in other situations", school.wouldOpen(0, 3, 0), false);
        Schools.open(school, 0, 3, 0);
        equal("opened here", school.wouldOpen(0, 3, 0), true);
    }

    @Sentence(promise = 0, value = "it remembers no trial in which it stayed closed in this situation")
    void habitWithOnlyAnOpening() {
        UmbrellaSchool school = Schools.with(3);
        Schools.open(school, 0, 0, 3);
        equal("-9 is the only reward", school.wouldOpen(0, 0, 3), true);
        Schools.close(school, 0, 0, 3);
        equal("-9 against 0", school.wouldOpen(0, 0, 3), false);
        Schools.open(school, 0, 0, 3);
        Schools.open(school, 0, 0, 3);
        equal("the closed one is remembered", school.timesTried(0, 0, 3, false), 1);
        equal("-9 and -9 against 0", school.wouldOpen(0, 0, 3), false);
        Schools.open(school, 0, 0, 3);
        equal("the closed one is forgotten", school.wouldOpen(0, 0, 3), true);
    }

    @Sentence(promise = 0, value = "the mean reward of opening is greater than that of staying closed; otherwise its habit is to stay closed.")
    void habitOfEqualMeans() {
        UmbrellaSchool school = Schools.with(20);
        Schools.open(school, 0, 1, 2);
        Schools.close(school, 0, 1, 2);
        equal("-2 against -2", school.wouldOpen(0, 1, 2), false);
        school.setGalePenalty(2);
        Schools.open(school, 0, 1, 2);
        equal("-2 and 0 against -2", school.wouldOpen(0, 1, 2), true);
        school.setGalePenalty(4);
        Schools.open(school, 0, 1, 2);
        equal("-2, 0 and -4 against -2", school.wouldOpen(0, 1, 2), false);
        school.setGalePenalty(2);
        Schools.open(school, 0, 1, 2);
        equal("it would open again", school.wouldOpen(0, 1, 2), true);
        school.setGalePenalty(9);
        Schools.open(school, 0, 1, 2);
        equal("-2, 0, -4, 0, -14 against -2", school.wouldOpen(0, 1, 2), false);
    }

    @Sentence(promise = 0, value = "Means are compared exactly.")
    void equalMeansOfOtherNumbersOfTrials() {
        UmbrellaSchool school = Schools.with(20);
        school.setWetPenalty(3);
        for (int i = 0; i < 3; i++) {
            Schools.close(school, 0, 1, 1);
        }
        school.setGalePenalty(9);
        Schools.open(school, 0, 1, 1);
        school.setGalePenalty(5);
        Schools.open(school, 0, 1, 1);
        equal("-6/2 against -9/3", school.wouldOpen(0, 1, 1), false);
        school.setGalePenalty(6);
        Schools.open(school, 0, 1, 1);
        equal("-8/3 against -9/3", school.wouldOpen(0, 1, 1), true);
    }

    @Sentence(promise = 0, value = "Means are compared exactly.")
    void meansWithTheSameWholeNumber() {
        UmbrellaSchool school = Schools.with(20);
        closeWithPenalties(school, 3, 3, 3, 3, 2);
        openWithPenalties(school, 6, 6, 8);
        equal("-8/3 against -14/5", school.wouldOpen(0, 1, 1), true);
        openWithPenalties(school, 8);
        equal("-12/4 against -14/5", school.wouldOpen(0, 1, 1), false);
    }

    @Sentence(promise = 0, value = "Means are compared exactly.")
    void meansThatAreClosestToEachOther() {
        UmbrellaSchool greater = Schools.with(20);
        closeWithPenalties(greater, 1, 1, 1, 1, 1, 1, 1, 1, 2);
        openWithPenalties(greater, 5, 5, 5, 5, 5, 5, 5, 5, 5, 6);
        equal("-11/10 against -10/9", greater.wouldOpen(0, 1, 1), true);
        UmbrellaSchool less = Schools.with(20);
        closeWithPenalties(less, 1, 1, 1, 1, 1, 1, 1, 1, 0);
        openWithPenalties(less, 5, 5, 5, 5, 5, 5, 5, 5, 5, 4);
        equal("-9/10 against -8/9", less.wouldOpen(0, 1, 1), false);
    }

    /** Rewards in rain 1, wind 1: 0 minus the penalty. */
    private static void closeWithPenalties(UmbrellaSchool school, int... penalties) {
        for (int penalty : penalties) {
            school.setWetPenalty(penalty);
            Schools.close(school, 0, 1, 1);
        }
    }

    /** Rewards in rain 1, wind 1: 4 minus the penalty. */
    private static void openWithPenalties(UmbrellaSchool school, int... penalties) {
        for (int penalty : penalties) {
            school.setGalePenalty(penalty);
            Schools.open(school, 0, 1, 1);
        }
    }

    // ---- trials

    @Sentence(promise = 0, value = "The trials of an umbrella are numbered from 1.")
    void theFirstTrialIsNumber1() {
        UmbrellaSchool school = Schools.with(3, 3);
        school.setPeriod(0, 2);
        school.setPeriod(1, 2);
        equal("trial 1 of 0", school.train(0, 3, 0, 1), -6);
        equal("trial 2 of 0 explores", school.train(0, 3, 0, 1), 12);
        equal("trial 1 of 1", school.train(1, 3, 0, 1), -6);
        equal("trial 2 of 1 explores", school.train(1, 3, 0, 1), 12);
        UmbrellaSchool first = Schools.with(3);
        first.setPeriod(0, 1);
        equal("trial 1 is a multiple of 1", first.train(0, 3, 0, 1), 12);
    }

    @Sentence(promise = 0, value = "In a trial whose number is a multiple of the period, the umbrella explores, that is, it does the opposite of its habit")
    void everyPeriodFromOneToNine() {
        for (int period = 1; period <= 9; period++) {
            UmbrellaSchool school = Schools.with(5);
            school.setPeriod(0, period);
            for (int number = 1; number <= 3 * period + 1; number++) {
                String what = "period " + period + ", trial " + number;
                boolean explores = number % period == 0;
                boolean habit = school.wouldOpen(0, 2, 3);
                equal(what + " explores", school.exploresNext(0), explores);
                school.train(0, 2, 3, 1);
                equal(what + " opens", school.trialOpened(0, 0), habit != explores);
            }
        }
    }

    @Sentence(promise = 0, value = "with the period 0 it never explores")
    void periodZeroNeverExplores() {
        UmbrellaSchool school = Schools.with(20);
        for (int number = 1; number <= 20; number++) {
            equal("before trial " + number, school.exploresNext(0), false);
            school.train(0, 3, 0, 1);
            equal("trial " + number, school.trialOpened(0, 0), false);
        }
        school.setPeriod(0, 7);
        equal("trial 21 with period 7", school.exploresNext(0), true);
        school.setPeriod(0, 0);
        equal("trial 21 with period 0", school.exploresNext(0), false);
    }

    @Sentence(promise = 0, value = "In any other trial, it follows its habit.")
    void otherTrialsFollowTheHabit() {
        UmbrellaSchool school = Schools.with(20);
        school.setPeriod(0, 9);
        equal("8 closed trials, the ninth explores", school.train(0, 3, 0, 9), -36);
        equal("8 open trials, the eighteenth explores", school.train(0, 3, 0, 9), 8 * 12 - 6);
    }

    @Sentence(promise = 0, value = "The reward is that of the penalties at this time.")
    void rewardsKeepTheirPenalties() {
        UmbrellaSchool school = Schools.with(3);
        school.setWetPenalty(0);
        equal("least penalty", school.train(0, 3, 0, 1), 0);
        school.setWetPenalty(9);
        equal("greatest penalty", school.train(0, 3, 0, 1), -27);
        equal("the first trial's reward stays", school.trialReward(0, 1), 0);
        equal("the sum", school.rewardSumByTrials(0, 3, 0, false), -27);
        school.setWetPenalty(1);
        school.train(0, 1, 0, 2);
        equal("the first one is forgotten with its own reward", school.rewardSum(0, 3, 0, false), -27);
        school.train(0, 1, 0, 1);
        equal("the second one too", school.rewardSum(0, 3, 0, false), 0);
    }

    @Sentence(promise = 0, value = "It is added to the total reward and to the term reward of the umbrella, both of which are initially 0.")
    void rewardsStartAtZero() {
        UmbrellaSchool school = Schools.with(3, 3);
        equal("totalReward at first", school.totalReward(0), 0);
        equal("termReward at first", school.termReward(0), 0);
        Schools.open(school, 0, 3, 0);
        Schools.close(school, 0, 3, 0);
        equal("totalReward", school.totalReward(0), 6);
        equal("termReward", school.termReward(0), 6);
        equal("another one's totalReward", school.totalReward(1), 0);
        equal("another one's termReward", school.termReward(1), 0);
    }

    // ---- exams

    @Sentence(promise = 0, value = "Its answers are its habits in the 4 situations with this wind.")
    void answersAreOfOneWind() {
        for (int wind = 0; wind <= 3; wind++) {
            UmbrellaSchool school = Schools.with(20);
            school.setWetPenalty(9);
            school.setGalePenalty(0);
            for (int rain = 1; rain <= 3; rain++) {
                Schools.open(school, 0, rain, wind);
            }
            for (int asked = 0; asked <= 3; asked++) {
                equal("wind " + asked + ", learnt for " + wind, school.examine(0, asked), asked == wind ? 4 : 1);
            }
        }
    }

    @Sentence(promise = 0, value = "An answer is right if the habit is to open exactly if the umbrella should open.")
    void rightAnswers() {
        UmbrellaSchool school = Schools.with(20);
        school.setWetPenalty(9);
        school.setGalePenalty(0);
        int[] due = {1, 2, 3, 4};
        for (int rain = 0; rain <= 3; rain++) {
            equal("opens up to rain " + rain, school.examine(0, 2), due[rain]);
            if (rain < 3) {
                Schools.open(school, 0, rain + 1, 2);
            }
        }
        Schools.open(school, 0, 0, 2);
        equal("opens in rain 0, where both rewards are 0", school.examine(0, 2), 3);
        school.setWetPenalty(0);
        school.setGalePenalty(9);
        equal("opens everywhere, but should nowhere", school.examine(0, 2), 0);
    }

    @Sentence(promise = 0, value = "With at least 3 right answers, the umbrella passes the exam for this wind")
    void threeRightAnswersPass() {
        for (int wrong = 0; wrong <= 4; wrong++) {
            UmbrellaSchool school = windySchool(wrong, 3);
            equal("examine", school.examine(0, 3), 4 - wrong);
            equal((4 - wrong) + " right answers pass", school.hasExam(0, 3), wrong <= 1);
        }
    }

    @Sentence(promise = 0, value = "otherwise it does not have an exam for this wind any more.")
    void fewerRightAnswersLoseTheExam() {
        for (int wrong = 0; wrong <= 4; wrong++) {
            UmbrellaSchool school = windySchool(0, 3);
            school.examine(0, 3);
            school.examine(0, 2);
            equal("passed", school.hasExam(0, 3) && school.hasExam(0, 2), true);
            for (int rain = 0; rain < wrong; rain++) {
                Schools.open(school, 0, rain, 3);
            }
            equal("the exam stays until the next one", school.hasExam(0, 3), true);
            school.examine(0, 3);
            equal((4 - wrong) + " right answers keep it", school.hasExam(0, 3), wrong <= 1);
            equal("another wind's exam stays", school.hasExam(0, 2), true);
        }
    }

    /** It should open nowhere in wind 2 and 3, but would in so many situations of one wind. */
    private static UmbrellaSchool windySchool(int wrong, int wind) {
        UmbrellaSchool school = Schools.with(20);
        school.setWetPenalty(0);
        school.setGalePenalty(9);
        for (int rain = 0; rain < wrong; rain++) {
            Schools.open(school, 0, rain, wind);
        }
        return school;
    }

    @Sentence(promise = 0, value = "An umbrella with exams for all 4 winds is a graduate.")
    void graduatesHaveAllFourExams() {
        for (int missing = 0; missing <= 3; missing++) {
            UmbrellaSchool school = Schools.with(20, 20);
            school.setWetPenalty(0);
            Schools.open(school, 0, 2, 0);
            Schools.open(school, 0, 3, 0);
            school.setGalePenalty(9);
            for (int wind = 0; wind <= 3; wind++) {
                if (wind != missing) {
                    equal("wind " + wind + " is passed", school.examine(0, wind) >= 3, true);
                }
            }
            equal("all but " + missing, school.isGraduate(0), false);
            school.examine(0, missing);
            equal("all", school.isGraduate(0), true);
            equal("not the other one", school.isGraduate(1), false);
        }
    }

    // ---- terms

    @Sentence(promise = 0, value = "The term counter starts at 0.")
    void theTermStartsAtZero() {
        UmbrellaSchool school = new UmbrellaSchool();
        equal("term", school.term(), 0);
        school.addUmbrella(3);
        equal("term with an umbrella", school.term(), 0);
    }

    @Sentence(promise = 0, value = "the umbrella with the greatest term reward, and of several the one with the lowest index, gets a star")
    void theBestOfTheTerm() {
        equal("all 0", Schools.with(3, 3, 3, 3, 3, 3).endTerm(), 0);
        equal("all less than 0", bestOf(2, 1, 3), 1);
        equal("the last of 6", bestOf(5, 4, 3, 2, 2, 1), 5);
        equal("of several the lowest", bestOf(3, 1, 2, 1, 1, 3), 1);
        equal("of all the lowest", bestOf(1, 1, 1, 1, 1, 1), 0);
        equal("0 beside less", bestOf(1, 0, 0), 1);
        equal("only one, less than 0", bestOf(9), 0);
        UmbrellaSchool school = Schools.with(3, 3);
        Schools.open(school, 0, 3, 0);
        equal("more than 0", school.endTerm(), 0);
        Schools.open(school, 1, 1, 0);
        equal("the total reward does not count", school.endTerm(), 1);
        equal("a star each", school.stars(0) * 10 + school.stars(1), 11);
    }

    /** Each umbrella stays closed so many times in rain 1: each time -2. */
    private static int bestOf(int... times) {
        UmbrellaSchool school = new UmbrellaSchool();
        for (int i = 0; i < times.length; i++) {
            school.addUmbrella(3);
            if (times[i] > 0) {
                school.train(i, 1, 0, times[i]);
            }
        }
        int best = school.endTerm();
        return school.stars(best) == 1 ? best : -1;
    }

    @Sentence(promise = 0, value = "then all term rewards become 0, and the term counter increases by 1.")
    void allTermRewardsBecomeZero() {
        UmbrellaSchool school = Schools.with(3, 3, 3, 3, 3, 3);
        for (int i = 0; i < 6; i++) {
            Schools.act(school, i, 3, 0, i % 2 == 0);
        }
        school.endTerm();
        for (int i = 0; i < 6; i++) {
            equal("termReward " + i, school.termReward(i), 0);
            equal("totalReward " + i, school.totalReward(i), i % 2 == 0 ? 12 : -6);
        }
        equal("term", school.term(), 1);
        school.endTerm();
        equal("term after a term without trials", school.term(), 2);
    }
}
