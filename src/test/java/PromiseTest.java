import java.util.NoSuchElementException;

/** A method for each promise of the document: ordinary inputs, the edges, and wrong inputs. */
public final class PromiseTest {
    private static final Class<IndexOutOfBoundsException> NO_INDEX = IndexOutOfBoundsException.class;
    private static final Class<IllegalArgumentException> BAD_ARGUMENT = IllegalArgumentException.class;
    private static final Class<IllegalStateException> BAD_STATE = IllegalStateException.class;
    private static final Class<NoSuchElementException> NO_ELEMENT = NoSuchElementException.class;
    private static final int[] NO_LEVELS = {Integer.MIN_VALUE, -1, 4, Integer.MAX_VALUE};
    private static final int[] NO_DIGITS = {Integer.MIN_VALUE, -1, 10, Integer.MAX_VALUE};

    private interface ByUmbrella {
        Object ask(UmbrellaSchool school, int umbrella);
    }

    private interface BySituation {
        Object ask(int rain, int wind);
    }

    private static final Checks CHECKS = new Checks();

    public static void main(String[] args) {
        promises1To9();
        promises10To17();
        promises18To29();
        promises30To43();
        promises44To53();
        CHECKS.finish("PromiseTest");
    }

    private static void promises1To9() {
        promise1NewObject();
        promise2AddUmbrella();
        promise3Train();
        promise4SetPeriod();
        promise5SetWetPenalty();
        promise6SetGalePenalty();
        promise7ForgetRain();
        promise8Examine();
        promise9EndTerm();
    }

    private static void promises10To17() {
        promise10UmbrellaCount();
        promise11Memory();
        promise12Period();
        promise13Trials();
        promise14RememberedTrials();
        promise15TrialRain();
        promise16TrialOpened();
        promise17TrialReward();
    }

    private static void promises18To29() {
        promise18Reward();
        promise19ShouldOpen();
        promise20WouldOpen();
        promise21ExploresNext();
        promise22TimesTried();
        promise23RewardSum();
        promise24RewardSumByTrials();
        promise25MeanReward();
        promise26RightHabits();
        promise27KnownSituations();
        promise28SituationRain();
        promise29SituationWind();
    }

    private static void promises30To43() {
        promise30HasExam();
        promise31IsGraduate();
        promise32TotalReward();
        promise33TermReward();
        promise34Stars();
        promise35UmbrellaByStars();
        promise36WetPenalty();
        promise37GalePenalty();
        promise38Term();
        promise39SchoolReward();
        promise40SchoolRewardByActions();
        promise41MeanSchoolReward();
        promise42OpenShare();
        promise43IsConsistent();
    }

    private static void promises44To53() {
        promise44RenderHabits();
        promise45RenderUmbrella();
        promise46OutputAt();
        promise47Type();
        promise48RunScript();
        promise49ErrorPosition();
        promise50FailedCommand();
        promise51Undo();
        promise52Save();
        promise53Restore();
    }

    // ---- helpers

    private static void equal(String what, Object got, Object due) {
        CHECKS.equal(what, got, due);
    }

    private static void raises(String what, Class<? extends RuntimeException> due, Checks.Call call) {
        CHECKS.raises(what, due, call);
    }

    private static void needsUmbrella(String what, ByUmbrella question) {
        raises(what + " without umbrellas", NO_INDEX, () -> question.ask(new UmbrellaSchool(), 0));
        UmbrellaSchool school = Schools.with(3);
        school.addUmbrella(4);
        for (int wrong : new int[] {Integer.MIN_VALUE, -1, 2, 6, Integer.MAX_VALUE}) {
            raises(what + " of umbrella " + wrong, NO_INDEX, () -> question.ask(school, wrong));
        }
    }

    private static void needsSituation(String what, BySituation question) {
        for (int wrong : NO_LEVELS) {
            raises(what + " with rain " + wrong, BAD_ARGUMENT, () -> question.ask(wrong, 0));
            raises(what + " with wind " + wrong, BAD_ARGUMENT, () -> question.ask(0, wrong));
        }
    }

    // ---- promises 1 to 9

    private static void promise1NewObject() {
        UmbrellaSchool school = new UmbrellaSchool();
        equal("umbrellaCount of a new school", school.umbrellaCount(), 0);
        equal("term of a new school", school.term(), 0);
        equal("wetPenalty of a new school", school.wetPenalty(), 2);
        equal("galePenalty of a new school", school.galePenalty(), 3);
        equal("schoolReward of a new school", school.schoolReward(), 0);
        equal("isConsistent of a new school", school.isConsistent(), true);
        raises("undo of a new school", BAD_STATE, () -> school.undo());
        raises("restore of a new school", BAD_STATE, () -> school.restore());
        raises("outputAt(0) of a new school", NO_INDEX, () -> school.outputAt(0));
        school.addUmbrella(3);
        equal("a second school's umbrellas", new UmbrellaSchool().umbrellaCount(), 0);
    }

    private static void promise2AddUmbrella() {
        UmbrellaSchool school = new UmbrellaSchool();
        for (int wrong : new int[] {Integer.MIN_VALUE, 2, 21, Integer.MAX_VALUE}) {
            raises("addUmbrella " + wrong, BAD_ARGUMENT, () -> school.addUmbrella(wrong));
        }
        int[] memories = {3, 20, 4, 19, 10, 11};
        for (int i = 0; i < 6; i++) {
            equal("addUmbrella " + memories[i], school.addUmbrella(memories[i]), i);
            equal("its remembered trials", school.rememberedTrials(i), 0);
        }
        equal("the first one's memory", school.memory(0), 3);
        raises("a seventh umbrella", BAD_STATE, () -> school.addUmbrella(3));
        raises("a seventh umbrella with memory 2", BAD_ARGUMENT, () -> school.addUmbrella(2));
        equal("umbrellas after failed calls", school.umbrellaCount(), 6);
        UmbrellaSchool again = Schools.with(5);
        again.train(0, 1, 1, 9);
        again.setPeriod(0, 4);
        again.examine(0, 3);
        again.endTerm();
        again.addUmbrella(7);
        again.undo();
        again.addUmbrella(8);
        equal("a fresh umbrella after undo", Schools.description(again, 1), "0/8p0*0:");
        equal("its trials", again.trials(1), 0);
    }

    private static void promise3Train() {
        UmbrellaSchool school = Schools.with(3);
        equal("closed trials first", school.train(0, 3, 1, 2), -12);
        school.setPeriod(0, 3);
        equal("trial 3 explores", school.train(0, 3, 1, 1), 9);
        equal("trials 4, 5 open, 6 closes", school.train(0, 3, 1, 3), 9 + 9 - 6);
        equal("the total reward", school.totalReward(0), 9);
        equal("the term reward", school.termReward(0), 9);
        equal("the trials", school.trials(0), 6);
        equal("the remembered trials", school.rememberedTrials(0), 3);
        equal("the latest one closed", school.trialOpened(0, 0), false);
        needsUmbrella("train", (s, u) -> s.train(u, 4, 4, 0));
        needsSituation("train", (rain, wind) -> school.train(0, rain, wind, 1));
        for (int wrong : new int[] {Integer.MIN_VALUE, 0, 10, Integer.MAX_VALUE}) {
            raises("train " + wrong + " times", BAD_ARGUMENT, () -> school.train(0, 0, 0, wrong));
        }
        equal("trials after failed calls", school.trials(0), 6);
        equal("nine trials", Schools.with(20).train(0, 1, 0, 9), -18);
        trainForgetsOnlyAfterTheAction();
        trainTakesPenaltiesOfItsTime();
    }

    private static void trainForgetsOnlyAfterTheAction() {
        UmbrellaSchool school = Schools.with(3);
        school.setPeriod(0, 1);
        school.train(0, 3, 0, 1);
        school.setPeriod(0, 0);
        school.train(0, 0, 0, 2);
        equal("the oldest trial still counts", school.train(0, 3, 0, 1), 12);
        equal("and is forgotten then", school.timesTried(0, 3, 0, true), 1);
    }

    private static void trainTakesPenaltiesOfItsTime() {
        UmbrellaSchool school = Schools.with(3);
        school.train(0, 2, 0, 1);
        school.setWetPenalty(9);
        equal("the new penalty", school.train(0, 2, 0, 1), -18);
        equal("the old trial's reward stays", school.trialReward(0, 1), -4);
        equal("the sum of both", school.rewardSum(0, 2, 0, false), -22);
    }

    private static void promise4SetPeriod() {
        UmbrellaSchool school = Schools.with(3);
        school.addUmbrella(3);
        equal("the first period", school.setPeriod(0, 9), 0);
        equal("the second one", school.setPeriod(0, 0), 9);
        equal("the third one", school.setPeriod(0, 1), 0);
        equal("period", school.period(0), 1);
        equal("the other one's period", school.period(1), 0);
        needsUmbrella("setPeriod", (s, u) -> s.setPeriod(u, 10));
        for (int wrong : NO_DIGITS) {
            raises("setPeriod " + wrong, BAD_ARGUMENT, () -> school.setPeriod(0, wrong));
        }
        equal("period after failed calls", school.period(0), 1);
    }

    private static void promise5SetWetPenalty() {
        UmbrellaSchool school = new UmbrellaSchool();
        equal("the first wet penalty", school.setWetPenalty(9), 2);
        equal("the second one", school.setWetPenalty(0), 9);
        equal("the third one", school.setWetPenalty(5), 0);
        equal("the gale penalty stays", school.galePenalty(), 3);
        for (int wrong : NO_DIGITS) {
            raises("setWetPenalty " + wrong, BAD_ARGUMENT, () -> school.setWetPenalty(wrong));
        }
        equal("after failed calls", school.wetPenalty(), 5);
    }

    private static void promise6SetGalePenalty() {
        UmbrellaSchool school = new UmbrellaSchool();
        equal("the first gale penalty", school.setGalePenalty(9), 3);
        equal("the second one", school.setGalePenalty(0), 9);
        equal("the third one", school.setGalePenalty(5), 0);
        equal("the wet penalty stays", school.wetPenalty(), 2);
        for (int wrong : NO_DIGITS) {
            raises("setGalePenalty " + wrong, BAD_ARGUMENT, () -> school.setGalePenalty(wrong));
        }
        equal("after failed calls", school.galePenalty(), 5);
    }

    private static void promise7ForgetRain() {
        UmbrellaSchool school = Schools.with(10);
        school.train(0, 1, 0, 2);
        school.train(0, 2, 1, 1);
        school.train(0, 1, 3, 3);
        school.train(0, 0, 0, 1);
        equal("forgetRain 3", school.forgetRain(0, 3), 0);
        equal("forgetRain 1", school.forgetRain(0, 1), 5);
        equal("forgetRain 1 again", school.forgetRain(0, 1), 0);
        equal("remembered trials", school.rememberedTrials(0), 2);
        equal("the latest rain", school.trialRain(0, 0), 0);
        equal("the rain before", school.trialRain(0, 1), 2);
        equal("a forgotten sum", school.rewardSum(0, 1, 3, false), 0);
        equal("a forgotten number", school.timesTried(0, 1, 3, false), 0);
        equal("a kept sum", school.rewardSum(0, 2, 1, false), -4);
        equal("the trials made", school.trials(0), 7);
        equal("the total reward", school.totalReward(0), -14);
        school.train(0, 3, 3, 8);
        equal("the memory is full again", school.rememberedTrials(0), 10);
        equal("the oldest one", school.trialRain(0, 9), 2);
        equal("consistent", school.isConsistent(), true);
        needsUmbrella("forgetRain", (s, u) -> s.forgetRain(u, 4));
        for (int wrong : NO_LEVELS) {
            raises("forgetRain " + wrong, BAD_ARGUMENT, () -> school.forgetRain(0, wrong));
        }
    }

    private static void promise8Examine() {
        UmbrellaSchool school = Schools.with(20);
        // Closed is right in rain 0 for every wind; it pays to open from rain 1 on with wind 0 and 1.
        equal("examine 0", school.examine(0, 0), 1);
        equal("examine 3: 18 - 9 > 0 in rain 2 and 3", school.examine(0, 3), 2);
        equal("no exam with 2 right answers", school.hasExam(0, 3), false);
        school.setPeriod(0, 1);
        school.train(0, 3, 3, 1);
        equal("three right answers", school.examine(0, 3), 3);
        equal("the exam", school.hasExam(0, 3), true);
        school.train(0, 2, 3, 1);
        equal("four right answers", school.examine(0, 3), 4);
        school.setGalePenalty(9);
        school.setWetPenalty(0);
        equal("the exam stays until it is held again", school.hasExam(0, 3), true);
        equal("now closed is right", school.examine(0, 3), 2);
        equal("the exam is lost", school.hasExam(0, 3), false);
        equal("no trial was made", school.trials(0), 2);
        needsUmbrella("examine", (s, u) -> s.examine(u, 4));
        for (int wrong : NO_LEVELS) {
            raises("examine " + wrong, BAD_ARGUMENT, () -> school.examine(0, wrong));
        }
    }

    private static void promise9EndTerm() {
        UmbrellaSchool school = new UmbrellaSchool();
        raises("endTerm without umbrellas", BAD_STATE, () -> school.endTerm());
        equal("the term then", school.term(), 0);
        school.addUmbrella(3);
        school.addUmbrella(3);
        school.addUmbrella(3);
        equal("the lowest index of equal ones", school.endTerm(), 0);
        school.train(0, 1, 0, 2);
        school.train(1, 1, 0, 1);
        school.train(2, 1, 0, 1);
        equal("the greatest term reward", school.endTerm(), 1);
        equal("its term reward", school.termReward(1), 0);
        equal("another one's term reward", school.termReward(0), 0);
        equal("another one's total reward", school.totalReward(0), -4);
        school.train(0, 1, 0, 1);
        school.train(1, 1, 0, 1);
        equal("the last one", school.endTerm(), 2);
        equal("the term", school.term(), 3);
        equal("stars", school.stars(0) * 100 + school.stars(1) * 10 + school.stars(2), 111);
    }

    // ---- promises 10 to 17

    private static void promise10UmbrellaCount() {
        UmbrellaSchool school = new UmbrellaSchool();
        for (int i = 0; i < 6; i++) {
            equal("umbrellaCount", school.umbrellaCount(), i);
            school.addUmbrella(5);
        }
        equal("umbrellaCount", school.umbrellaCount(), 6);
        school.undo();
        equal("umbrellaCount after undo", school.umbrellaCount(), 5);
    }

    private static void promise11Memory() {
        UmbrellaSchool school = Schools.with(3);
        school.addUmbrella(20);
        equal("memory of 0", school.memory(0), 3);
        equal("memory of 1", school.memory(1), 20);
        school.train(0, 0, 0, 9);
        equal("memory of 0 when full", school.memory(0), 3);
        school.train(1, 0, 0, 9);
        school.train(1, 0, 0, 9);
        school.train(1, 0, 0, 9);
        equal("20 are remembered", school.rememberedTrials(1), 20);
        needsUmbrella("memory", (s, u) -> s.memory(u));
    }

    private static void promise12Period() {
        UmbrellaSchool school = Schools.with(3);
        school.addUmbrella(3);
        equal("the period at first", school.period(1), 0);
        school.setPeriod(1, 7);
        equal("period of 1", school.period(1), 7);
        equal("period of 0", school.period(0), 0);
        needsUmbrella("period", (s, u) -> s.period(u));
    }

    private static void promise13Trials() {
        UmbrellaSchool school = Schools.with(3);
        equal("trials at first", school.trials(0), 0);
        school.train(0, 0, 0, 9);
        school.train(0, 1, 0, 1);
        equal("trials", school.trials(0), 10);
        school.forgetRain(0, 0);
        equal("forgotten trials were made too", school.trials(0), 10);
        needsUmbrella("trials", (s, u) -> s.trials(u));
    }

    private static void promise14RememberedTrials() {
        UmbrellaSchool school = Schools.with(4);
        equal("none at first", school.rememberedTrials(0), 0);
        school.train(0, 0, 0, 3);
        equal("three", school.rememberedTrials(0), 3);
        school.train(0, 1, 0, 1);
        equal("four", school.rememberedTrials(0), 4);
        school.train(0, 0, 0, 1);
        equal("four at most", school.rememberedTrials(0), 4);
        school.forgetRain(0, 1);
        equal("three again", school.rememberedTrials(0), 3);
        needsUmbrella("rememberedTrials", (s, u) -> s.rememberedTrials(u));
    }

    private static void needsTrial(String what, ByUmbrella ofUmbrellaZero) {
        UmbrellaSchool school = Schools.with(3);
        raises(what + " without trials", NO_ELEMENT, () -> ofUmbrellaZero.ask(school, 0));
        school.train(0, 1, 1, 9);
        for (int wrong : new int[] {Integer.MIN_VALUE, -1, 3, Integer.MAX_VALUE}) {
            raises(what + " " + wrong, NO_ELEMENT, () -> ofUmbrellaZero.ask(school, wrong));
        }
    }

    private static void promise15TrialRain() {
        UmbrellaSchool school = Schools.with(3);
        for (int rain = 0; rain < 4; rain++) {
            school.train(0, rain, 3 - rain, 1);
        }
        for (int recency = 0; recency < 3; recency++) {
            equal("trialRain " + recency, school.trialRain(0, recency), 3 - recency);
        }
        needsUmbrella("trialRain", (s, u) -> s.trialRain(u, -1));
        needsTrial("trialRain", (s, recency) -> s.trialRain(0, recency));
    }

    private static void promise16TrialOpened() {
        UmbrellaSchool school = Schools.explored(3);
        equal("the third trial explored", school.trialOpened(0, 0), true);
        equal("the second did not", school.trialOpened(0, 1), false);
        school.train(0, 0, 0, 1);
        equal("it is the one before now", school.trialOpened(0, 1), true);
        equal("the latest is closed", school.trialOpened(0, 0), false);
        needsUmbrella("trialOpened", (s, u) -> s.trialOpened(u, -1));
        needsTrial("trialOpened", (s, recency) -> s.trialOpened(0, recency));
    }

    private static void promise17TrialReward() {
        UmbrellaSchool school = Schools.explored(3);
        equal("the third trial's reward", school.trialReward(0, 0), 9);
        equal("the first trial's reward", school.trialReward(0, 2), -6);
        school.setGalePenalty(0);
        equal("it keeps its reward", school.trialReward(0, 0), 9);
        school.train(0, 3, 1, 1);
        equal("the reward of today", school.trialReward(0, 0), 12);
        needsUmbrella("trialReward", (s, u) -> s.trialReward(u, -1));
        needsTrial("trialReward", (s, recency) -> s.trialReward(0, recency));
    }

    // ---- promises 18 to 29

    private static void promise18Reward() {
        UmbrellaSchool school = new UmbrellaSchool();
        for (int penalty = 0; penalty <= 9; penalty++) {
            school.setWetPenalty(9 - penalty);
            school.setGalePenalty(penalty);
            for (int rain = 0; rain <= 3; rain++) {
                for (int wind = 0; wind <= 3; wind++) {
                    equal("reward open", school.reward(rain, wind, true), 4 * rain - penalty * wind);
                    equal("reward closed", school.reward(rain, wind, false), -(9 - penalty) * rain);
                }
            }
        }
        needsSituation("reward open", (rain, wind) -> school.reward(rain, wind, true));
        needsSituation("reward closed", (rain, wind) -> school.reward(rain, wind, false));
    }

    private static void promise19ShouldOpen() {
        UmbrellaSchool school = new UmbrellaSchool();
        String due = "cccc/oocc/oooo/oooo".replace("/", "");
        for (int i = 0; i < 16; i++) {
            // 4 r - 3 w > -2 r, so 2 r > w
            equal("shouldOpen " + i, school.shouldOpen(i / 4, i % 4), due.charAt(i) == 'o');
        }
        school.setWetPenalty(0);
        school.setGalePenalty(4);
        equal("equal rewards", school.shouldOpen(2, 2), false);
        equal("a greater one", school.shouldOpen(3, 2), true);
        needsSituation("shouldOpen", (rain, wind) -> school.shouldOpen(rain, wind));
    }

    private static void promise20WouldOpen() {
        UmbrellaSchool school = Schools.with(20);
        equal("nothing is remembered", school.wouldOpen(0, 3, 0), false);
        school.setPeriod(0, 1);
        school.train(0, 0, 3, 1);
        equal("only a bad opening", school.wouldOpen(0, 0, 3), true);
        equal("another situation", school.wouldOpen(0, 0, 2), false);
        school.train(0, 0, 3, 1);
        equal("-9 against 0", school.wouldOpen(0, 0, 3), false);
        school.train(0, 0, 0, 2);
        equal("0 against 0", school.wouldOpen(0, 0, 0), false);
        meansAreComparedExactly();
        needsUmbrella("wouldOpen", (s, u) -> s.wouldOpen(u, 4, 4));
        needsSituation("wouldOpen", (rain, wind) -> school.wouldOpen(0, rain, wind));
    }

    /** Neither the sums nor the means cut to whole numbers would order these as their exact means do. */
    private static void meansAreComparedExactly() {
        UmbrellaSchool school = Schools.with(20);
        school.setWetPenalty(3);
        school.setGalePenalty(9);
        school.train(0, 1, 1, 3);
        equal("closed three times: -9", school.rewardSum(0, 1, 1, false), -9);
        school.setPeriod(0, 1);
        school.train(0, 1, 1, 1);
        equal("open once: -5", school.rewardSum(0, 1, 1, true), -5);
        equal("-5 is less than -3", school.wouldOpen(0, 1, 1), false);
        school.setGalePenalty(6);
        school.train(0, 1, 1, 1);
        equal("open twice: -7", school.rewardSum(0, 1, 1, true), -7);
        equal("-7/2 is less than -9/3", school.wouldOpen(0, 1, 1), false);
        school.setGalePenalty(5);
        school.train(0, 1, 1, 1);
        equal("-8/3 is greater than -9/3, both are -2 or -3 as ints", school.wouldOpen(0, 1, 1), true);
    }

    private static void promise21ExploresNext() {
        UmbrellaSchool school = Schools.with(3);
        equal("never with period 0", school.exploresNext(0), false);
        school.setPeriod(0, 1);
        equal("always with period 1", school.exploresNext(0), true);
        school.setPeriod(0, 3);
        for (int made = 0; made < 9; made++) {
            equal("before trial " + (made + 1), school.exploresNext(0), made % 3 == 2);
            school.train(0, 0, 0, 1);
        }
        school.forgetRain(0, 0);
        school.setPeriod(0, 5);
        equal("trial 10, though all are forgotten", school.exploresNext(0), true);
        school.setPeriod(0, 0);
        equal("never with period 0 again", school.exploresNext(0), false);
        needsUmbrella("exploresNext", (s, u) -> s.exploresNext(u));
    }

    private static void promise22TimesTried() {
        UmbrellaSchool school = Schools.explored(4);
        equal("open", school.timesTried(0, 3, 1, true), 1);
        equal("closed", school.timesTried(0, 3, 1, false), 2);
        equal("elsewhere", school.timesTried(0, 1, 3, false), 0);
        school.train(0, 0, 0, 2);
        equal("one is forgotten", school.timesTried(0, 3, 1, false), 1);
        equal("two closed in rain 0", school.timesTried(0, 0, 0, false), 2);
        needsUmbrella("timesTried", (s, u) -> s.timesTried(u, 4, 4, true));
        needsSituation("timesTried", (rain, wind) -> school.timesTried(0, rain, wind, true));
    }

    private static void promise23RewardSum() {
        UmbrellaSchool school = Schools.explored(4);
        equal("open", school.rewardSum(0, 3, 1, true), 9);
        equal("closed", school.rewardSum(0, 3, 1, false), -12);
        equal("elsewhere", school.rewardSum(0, 1, 3, false), 0);
        school.train(0, 0, 0, 2);
        equal("one is forgotten", school.rewardSum(0, 3, 1, false), -6);
        school.forgetRain(0, 3);
        equal("all are forgotten", school.rewardSum(0, 3, 1, true), 0);
        needsUmbrella("rewardSum", (s, u) -> s.rewardSum(u, 4, 4, true));
        needsSituation("rewardSum", (rain, wind) -> school.rewardSum(0, rain, wind, false));
    }

    private static void promise24RewardSumByTrials() {
        UmbrellaSchool school = Schools.explored(4);
        equal("open", school.rewardSumByTrials(0, 3, 1, true), 9);
        equal("closed", school.rewardSumByTrials(0, 3, 1, false), -12);
        equal("elsewhere", school.rewardSumByTrials(0, 1, 3, false), 0);
        school.train(0, 0, 0, 2);
        equal("one is forgotten", school.rewardSumByTrials(0, 3, 1, false), -6);
        school.forgetRain(0, 3);
        equal("all are forgotten", school.rewardSumByTrials(0, 3, 1, true), 0);
        UmbrellaSchool other = Schools.with(4);
        other.train(0, 0, 0, 2);
        other.train(0, 2, 0, 1);
        other.forgetRain(0, 2);
        equal("the latest one is forgotten", other.rewardSumByTrials(0, 2, 0, false), 0);
        needsUmbrella("rewardSumByTrials", (s, u) -> s.rewardSumByTrials(u, 4, 4, true));
        needsSituation("rewardSumByTrials", (rain, wind) -> school.rewardSumByTrials(0, rain, wind, false));
    }

    private static void promise25MeanReward() {
        UmbrellaSchool school = Schools.explored(20);
        equal("open", school.meanReward(0, 3, 1, true), 9.0);
        equal("closed", school.meanReward(0, 3, 1, false), -6.0);
        school.setWetPenalty(1);
        school.setPeriod(0, 4);
        school.train(0, 3, 1, 1);
        equal("a third", school.meanReward(0, 3, 1, false), -15.0 / 3.0);
        school.setWetPenalty(3);
        school.setPeriod(0, 5);
        school.train(0, 3, 1, 1);
        school.setWetPenalty(4);
        school.setPeriod(0, 1);
        school.train(0, 3, 1, 1);
        school.setPeriod(0, 1);
        school.train(0, 3, 1, 2);
        equal("not cut to whole numbers", school.meanReward(0, 3, 1, false), -60.0 / 7.0);
        school.train(0, 0, 0, 1);
        equal("zero", school.meanReward(0, 0, 0, true), 0.0);
        raises("never tried", NO_ELEMENT, () -> school.meanReward(0, 0, 0, false));
        needsUmbrella("meanReward", (s, u) -> s.meanReward(u, 4, 4, true));
        needsSituation("meanReward", (rain, wind) -> school.meanReward(0, rain, wind, true));
    }

    private static void promise26RightHabits() {
        UmbrellaSchool school = Schools.with(20);
        equal("closed is right 6 times", school.rightHabits(0), 6);
        school.setPeriod(0, 1);
        school.train(0, 3, 3, 1);
        equal("a right opening", school.rightHabits(0), 7);
        school.train(0, 0, 0, 1);
        equal("a wrong opening", school.rightHabits(0), 6);
        school.setGalePenalty(0);
        school.setWetPenalty(9);
        equal("only rain 0 is closed", school.rightHabits(0), 3 + 1);
        needsUmbrella("rightHabits", (s, u) -> s.rightHabits(u));
    }

    private static void promise27KnownSituations() {
        UmbrellaSchool school = Schools.with(4);
        equal("none at first", school.knownSituations(0), 0);
        school.train(0, 2, 1, 2);
        equal("one", school.knownSituations(0), 1);
        school.setPeriod(0, 1);
        school.train(0, 2, 1, 1);
        equal("one with both actions", school.knownSituations(0), 1);
        school.train(0, 1, 2, 1);
        equal("two", school.knownSituations(0), 2);
        school.train(0, 0, 0, 4);
        equal("one, the others are forgotten", school.knownSituations(0), 1);
        needsUmbrella("knownSituations", (s, u) -> s.knownSituations(u));
    }

    /** By number: rain 1 wind 2 thrice; then rain 0 wind 3, rain 3 wind 0 and rain 3 wind 1 twice; rain 0 wind 0. */
    private static UmbrellaSchool rankedSchool() {
        UmbrellaSchool school = Schools.with(10);
        school.train(0, 3, 1, 1);
        school.train(0, 3, 0, 2);
        school.train(0, 0, 0, 1);
        school.setPeriod(0, 1);
        school.train(0, 0, 3, 2);
        school.train(0, 1, 2, 3);
        school.train(0, 3, 1, 1);
        return school;
    }

    private static void promise28SituationRain() {
        UmbrellaSchool school = rankedSchool();
        int[] due = {1, 0, 3, 3, 0};
        for (int rank = 0; rank < due.length; rank++) {
            equal("situationRain " + rank, school.situationRain(0, rank), due[rank]);
        }
        for (int wrong : new int[] {Integer.MIN_VALUE, -1, 5, 16, Integer.MAX_VALUE}) {
            raises("situationRain " + wrong, NO_ELEMENT, () -> school.situationRain(0, wrong));
        }
        school.train(0, 0, 0, 9);
        equal("rain 0, wind 0 nine times", school.situationRain(0, 0), 0);
        equal("behind it the other one", school.situationRain(0, 1), 3);
        raises("without trials", NO_ELEMENT, () -> Schools.with(3).situationRain(0, 0));
        needsUmbrella("situationRain", (s, u) -> s.situationRain(u, -1));
    }

    private static void promise29SituationWind() {
        UmbrellaSchool school = rankedSchool();
        int[] due = {2, 3, 0, 1, 0};
        for (int rank = 0; rank < due.length; rank++) {
            equal("situationWind " + rank, school.situationWind(0, rank), due[rank]);
        }
        for (int wrong : new int[] {Integer.MIN_VALUE, -1, 5, 16, Integer.MAX_VALUE}) {
            raises("situationWind " + wrong, NO_ELEMENT, () -> school.situationWind(0, wrong));
        }
        raises("without trials", NO_ELEMENT, () -> Schools.with(3).situationWind(0, 0));
        needsUmbrella("situationWind", (s, u) -> s.situationWind(u, -1));
    }

    // ---- promises 30 to 43

    private static void promise30HasExam() {
        UmbrellaSchool school = Schools.with(3);
        school.addUmbrella(3);
        equal("none at first", school.hasExam(0, 2), false);
        school.setWetPenalty(0);
        school.setGalePenalty(9);
        school.examine(0, 2);
        equal("after a passed exam", school.hasExam(0, 2), true);
        equal("another wind", school.hasExam(0, 1), false);
        equal("another umbrella", school.hasExam(1, 2), false);
        school.setGalePenalty(0);
        school.examine(0, 2);
        equal("after a failed exam", school.hasExam(0, 2), false);
        needsUmbrella("hasExam", (s, u) -> s.hasExam(u, 4));
        for (int wrong : NO_LEVELS) {
            raises("hasExam " + wrong, BAD_ARGUMENT, () -> school.hasExam(0, wrong));
        }
    }

    private static void promise31IsGraduate() {
        UmbrellaSchool school = Schools.with(20);
        school.setWetPenalty(0);
        school.setGalePenalty(9);
        school.setPeriod(0, 1);
        school.train(0, 1, 0, 1);
        school.train(0, 2, 0, 1);
        for (int wind = 0; wind < 4; wind++) {
            equal("not yet with " + wind, school.isGraduate(0), false);
            school.examine(0, wind);
        }
        equal("with all winds", school.isGraduate(0), true);
        school.forgetRain(0, 1);
        school.examine(0, 0);
        equal("one exam is lost", school.isGraduate(0), false);
        equal("the others are not", school.hasExam(0, 1) && school.hasExam(0, 3), true);
        needsUmbrella("isGraduate", (s, u) -> s.isGraduate(u));
    }

    private static void promise32TotalReward() {
        UmbrellaSchool school = Schools.explored(3);
        school.addUmbrella(3);
        equal("total reward", school.totalReward(0), -3);
        equal("the other one's", school.totalReward(1), 0);
        school.endTerm();
        school.train(0, 3, 1, 1);
        equal("over the terms", school.totalReward(0), 6);
        school.forgetRain(0, 3);
        equal("forgotten trials count", school.totalReward(0), 6);
        needsUmbrella("totalReward", (s, u) -> s.totalReward(u));
    }

    private static void promise33TermReward() {
        UmbrellaSchool school = Schools.explored(3);
        equal("term reward", school.termReward(0), -3);
        school.endTerm();
        equal("after the term", school.termReward(0), 0);
        school.train(0, 3, 1, 1);
        equal("in this term", school.termReward(0), 9);
        needsUmbrella("termReward", (s, u) -> s.termReward(u));
    }

    private static void promise34Stars() {
        UmbrellaSchool school = Schools.with(3);
        school.addUmbrella(3);
        school.train(0, 1, 0, 1);
        equal("none at first", school.stars(1), 0);
        school.endTerm();
        school.train(0, 1, 0, 1);
        school.endTerm();
        equal("two stars", school.stars(1), 2);
        equal("no star", school.stars(0), 0);
        needsUmbrella("stars", (s, u) -> s.stars(u));
    }

    private static void promise35UmbrellaByStars() {
        UmbrellaSchool school = new UmbrellaSchool();
        raises("without umbrellas", NO_ELEMENT, () -> school.umbrellaByStars(0));
        for (int i = 0; i < 5; i++) {
            school.addUmbrella(3);
        }
        school.train(0, 1, 0, 3);
        school.train(1, 1, 0, 2);
        school.train(2, 1, 0, 1);
        school.train(3, 1, 0, 2);
        school.train(4, 2, 0, 9);
        school.endTerm();
        for (int i = 0; i < 4; i++) {
            school.train(i, 1, 0, 1);
        }
        school.endTerm();
        // Stars: 2 and 4 one each, with totals -4 and -36; the others' totals are -8, -6, -6.
        int[] due = {2, 4, 1, 3, 0};
        for (int rank = 0; rank < due.length; rank++) {
            equal("umbrellaByStars " + rank, school.umbrellaByStars(rank), due[rank]);
        }
        for (int wrong : new int[] {Integer.MIN_VALUE, -1, 5, 6, Integer.MAX_VALUE}) {
            raises("umbrellaByStars " + wrong, NO_ELEMENT, () -> school.umbrellaByStars(wrong));
        }
        UmbrellaSchool even = Schools.with(3);
        even.addUmbrella(3);
        equal("of equal ones the first", even.umbrellaByStars(0), 0);
        equal("of equal ones the second", even.umbrellaByStars(1), 1);
        even.endTerm();
        even.train(0, 1, 0, 1);
        equal("a star before a greater reward", even.umbrellaByStars(0), 0);
    }

    private static void promise36WetPenalty() {
        UmbrellaSchool school = new UmbrellaSchool();
        equal("wetPenalty at first", school.wetPenalty(), 2);
        school.setWetPenalty(7);
        school.setGalePenalty(6);
        equal("wetPenalty", school.wetPenalty(), 7);
    }

    private static void promise37GalePenalty() {
        UmbrellaSchool school = new UmbrellaSchool();
        equal("galePenalty at first", school.galePenalty(), 3);
        school.setWetPenalty(7);
        school.setGalePenalty(6);
        equal("galePenalty", school.galePenalty(), 6);
    }

    private static void promise38Term() {
        UmbrellaSchool school = Schools.with(3);
        equal("term at first", school.term(), 0);
        school.endTerm();
        school.endTerm();
        equal("term", school.term(), 2);
        school.undo();
        equal("term after undo", school.term(), 1);
    }

    /** Rewards -6, -6, 9 of umbrella 0 and -2, -2 of umbrella 1. */
    private static UmbrellaSchool twoUmbrellas() {
        UmbrellaSchool school = Schools.explored(3);
        school.addUmbrella(3);
        school.train(1, 1, 0, 2);
        return school;
    }

    private static void promise39SchoolReward() {
        equal("without trials", Schools.with(3).schoolReward(), 0);
        UmbrellaSchool school = twoUmbrellas();
        equal("schoolReward", school.schoolReward(), -7);
        school.endTerm();
        school.forgetRain(0, 3);
        equal("over the terms", school.schoolReward(), -7);
    }

    private static void promise40SchoolRewardByActions() {
        equal("without trials", Schools.with(3).schoolRewardByActions(), 0);
        UmbrellaSchool school = twoUmbrellas();
        equal("schoolRewardByActions", school.schoolRewardByActions(), -7);
        school.endTerm();
        school.forgetRain(0, 3);
        equal("over the terms", school.schoolRewardByActions(), -7);
        school.undo();
        school.undo();
        school.undo();
        equal("after undo", school.schoolRewardByActions(), -3);
    }

    private static void promise41MeanSchoolReward() {
        raises("without umbrellas", ArithmeticException.class, () -> new UmbrellaSchool().meanSchoolReward());
        raises("without trials", ArithmeticException.class, () -> Schools.with(3).meanSchoolReward());
        UmbrellaSchool school = twoUmbrellas();
        equal("meanSchoolReward", school.meanSchoolReward(), -7.0 / 5.0);
        school.forgetRain(0, 3);
        equal("forgotten trials count", school.meanSchoolReward(), -7.0 / 5.0);
        UmbrellaSchool zero = Schools.with(3);
        zero.train(0, 0, 0, 1);
        equal("a mean of zero", zero.meanSchoolReward(), 0.0);
    }

    private static void promise42OpenShare() {
        raises("without umbrellas", ArithmeticException.class, () -> new UmbrellaSchool().openShare());
        raises("without trials", ArithmeticException.class, () -> Schools.with(3).openShare());
        UmbrellaSchool school = twoUmbrellas();
        equal("openShare", school.openShare(), 1.0f / 5.0f);
        school.forgetRain(0, 3);
        equal("forgotten trials count", school.openShare(), 1.0f / 5.0f);
        school.train(0, 3, 1, 1);
        equal("a sixth", school.openShare(), 1.0f / 6.0f);
        school.undo();
        equal("a fifth again", school.openShare(), 1.0f / 5.0f);
    }

    private static void promise43IsConsistent() {
        UmbrellaSchool school = twoUmbrellas();
        equal("after trials", school.isConsistent(), true);
        school.setWetPenalty(9);
        school.train(0, 3, 1, 9);
        school.endTerm();
        school.endTerm();
        equal("after terms", school.isConsistent(), true);
        school.forgetRain(0, 3);
        school.undo();
        equal("after undo", school.isConsistent(), true);
        school.save();
        school.train(1, 1, 0, 9);
        school.restore();
        equal("after restore", school.isConsistent(), true);
        Schools.run(school, "train 0 31x9;term;add 2");
        equal("after a failed script", school.isConsistent(), true);
    }

    // ---- promises 44 to 53

    private static void promise44RenderHabits() {
        UmbrellaSchool school = Schools.with(20);
        equal("the length", school.renderHabits(0), 19);
        equal("all closed", Schools.habits(school, 0), "cccc/cccc/cccc/cccc");
        school.setPeriod(0, 1);
        for (int[] situation : new int[][] {{1, 0}, {2, 0}, {2, 1}, {3, 0}, {3, 1}, {3, 2}}) {
            school.train(0, situation[0], situation[1], 1);
        }
        equal("the document's own", Schools.habits(school, 0), "cccc/occc/oocc/oooc");
        raises("renderHabits 1", NO_INDEX, () -> school.renderHabits(1));
        equal("the text stays", Schools.output(school), "cccc/occc/oocc/oooc");
        needsUmbrella("renderHabits", (s, u) -> s.renderHabits(u));
    }

    private static void promise45RenderUmbrella() {
        UmbrellaSchool school = Schools.with(10);
        equal("a new one", Schools.description(school, 0), "0/10p0*0:");
        school.setWetPenalty(0);
        school.setGalePenalty(9);
        school.train(0, 0, 0, 5);
        school.setPeriod(0, 3);
        school.examine(0, 2);
        school.setGalePenalty(0);
        school.setWetPenalty(9);
        school.forgetRain(0, 3);
        school.setPeriod(0, 6);
        school.train(0, 1, 0, 1);
        school.setPeriod(0, 7);
        school.train(0, 2, 0, 1);
        school.examine(0, 0);
        school.setPeriod(0, 3);
        equal("two exams", Schools.description(school, 0), "7/10p3*0:02");
        school.forgetRain(0, 1);
        school.forgetRain(0, 2);
        equal("the document's own", Schools.description(school, 0), "5/10p3*0:02");
        equal("its length", school.renderUmbrella(0), 11);
        for (int i = 0; i < 12; i++) {
            school.endTerm();
        }
        equal("stars of two digits", Schools.description(school, 0), "5/10p3*12:02");
        raises("renderUmbrella 1", NO_INDEX, () -> school.renderUmbrella(1));
        equal("the text stays", Schools.output(school), "5/10p3*12:02");
        needsUmbrella("renderUmbrella", (s, u) -> s.renderUmbrella(u));
    }

    private static void promise46OutputAt() {
        UmbrellaSchool school = Schools.with(3);
        raises("an empty text", NO_INDEX, () -> school.outputAt(0));
        school.renderHabits(0);
        equal("a sign between rains", school.outputAt(4), '/');
        equal("the last sign", school.outputAt(18), 'c');
        school.renderUmbrella(0);
        equal("the first sign", school.outputAt(0), '0');
        equal("the last sign of the shorter text", school.outputAt(7), ':');
        for (int wrong : new int[] {Integer.MIN_VALUE, -1, 8, 18, Integer.MAX_VALUE}) {
            raises("outputAt " + wrong, NO_INDEX, () -> school.outputAt(wrong));
        }
        school.undo();
        equal("undo leaves the text", school.outputAt(7), ':');
    }

    private static void promise47Type() {
        UmbrellaSchool school = new UmbrellaSchool();
        equal("the first sign", school.type(' '), 1);
        equal("the second sign", school.type('~'), 2);
        for (int wrong : new int[] {0, 31, 127, 255, 65535}) {
            raises("type " + wrong, BAD_ARGUMENT, () -> school.type((char) wrong));
        }
        for (int length = 3; length <= 60; length++) {
            equal("a sign", school.type('a'), length);
        }
        raises("a sign too many", BAD_STATE, () -> school.type('a'));
        raises("a wrong sign too many", BAD_ARGUMENT, () -> school.type((char) 31));
        raises("undo, as typing is no change", BAD_STATE, () -> school.undo());
        raises("runScript", BAD_ARGUMENT, () -> school.runScript());
        equal("the buffer is empty then", school.type('a'), 1);
    }

    private static void promise48RunScript() {
        UmbrellaSchool school = new UmbrellaSchool();
        equal("one command", Schools.run(school, "add 5"), 1);
        equal("all commands", Schools.run(school, "add 20;wet 4;gale 5;period 0 3;train 0 31x3;train 1 20"), 6);
        equal("the memory", school.memory(1), 20);
        equal("penalties", school.wetPenalty() * 10 + school.galePenalty(), 45);
        equal("three trials", school.totalReward(0), -12 - 12 + 7);
        equal("one trial", school.trials(1), 1);
        equal("the others", Schools.run(school, "exam 0 3;term;forget 0 3"), 3);
        equal("the star", school.stars(1), 1);
        equal("forgotten", school.rememberedTrials(0), 0);
        equal("a script is one change", school.undo(), 2);
        equal("it is undone", school.term(), 0);
        equal("the rest of the buffer", school.type('t'), 1);
        equal("a half word", Schools.run(school, "er"), BAD_ARGUMENT);
        equal("the buffer is empty", Schools.run(school, ""), BAD_ARGUMENT);
        equal("60 signs", Schools.run(school, "term;term;term;term;term;term;term;term;term;term;train 1 00"), 11);
        equal("a term each", school.term(), 10);
        failedScriptsChangeNothing();
    }

    private static void failedScriptsChangeNothing() {
        UmbrellaSchool school = Schools.explored(3);
        for (int i = 0; i < 9; i++) {
            school.setWetPenalty(i);
        }
        equal("a bad number", Schools.run(school, "wet 0;train 0 33x9;term;add 21;term"), BAD_STATE);
        equal("nothing changed", school.wetPenalty() * 1000 + school.term() * 100 + school.trials(0), 8003);
        equal("no umbrella", Schools.run(school, "add 3;term;train 2 00"), BAD_STATE);
        equal("no umbrella was added", school.umbrellaCount(), 1);
        equal("no trials", Schools.run(school, "train 0 00x0"), BAD_STATE);
        equal("no such rain", Schools.run(school, "train 0 40"), BAD_STATE);
        equal("no such wind", Schools.run(school, "exam 0 4"), BAD_STATE);
        equal("a wrong form", Schools.run(school, "wet 3;wet 10"), BAD_ARGUMENT);
        equal("8 changes can be undone still", school.undo(), 7);
        equal("the latest is the penalty", school.wetPenalty(), 7);
        for (int i = 6; i >= 0; i--) {
            equal("undo", school.undo(), i);
            equal("the penalty before", school.wetPenalty(), i);
        }
        raises("undo", BAD_STATE, () -> school.undo());
    }

    private static void promise49ErrorPosition() {
        UmbrellaSchool school = new UmbrellaSchool();
        raises("no script yet", NO_ELEMENT, () -> school.errorPosition());
        errorAt(school, "", 0);
        errorAt(school, "x", 0);
        errorAt(school, "t", 1);
        errorAt(school, "to", 1);
        errorAt(school, "tr", 2);
        errorAt(school, "ter ", 3);
        errorAt(school, "term ", 4);
        errorAt(school, "term;", 5);
        errorAt(school, "term;;", 5);
        errorAt(school, ";term", 0);
        errorAt(school, "add", 3);
        errorAt(school, "add ", 4);
        errorAt(school, "add x", 4);
        errorAt(school, "add 123", 6);
        errorAt(school, "add 1;add", 9);
        errorAt(school, "train 0 1", 9);
        errorAt(school, "train 0 1;", 9);
        errorAt(school, "train 0 1 1", 9);
        errorAt(school, "train 0 11 ", 10);
        errorAt(school, "train 0 11x", 11);
        errorAt(school, "train 0 11x;", 11);
        errorAt(school, "train 0 11x11", 12);
        errorAt(school, "wet ", 4);
        errorAt(school, "gale ", 5);
        errorAt(school, "period 1 ", 9);
        errorAt(school, "forget 2 ", 9);
        errorAt(school, "wet 10", 5);
        errorAt(school, "gale -1", 5);
        errorAt(school, "Wet 1", 0);
        errorAt(school, "period 0 #", 9);
        errorAt(school, "forget 0,1", 8);
        errorAt(school, "exam 0 ", 7);
        errorAt(school, "term; term", 5);
        errorAt(school, "term;term;term;term;term;term;term;term;term;term;term;term;", 60);
        Schools.run(school, "add 2");
        Schools.run(school, "add 3");
        school.undo();
        equal("the latest wrong form stays", school.errorPosition(), 60);
        raises("a failed command only", NO_ELEMENT, () -> {
            UmbrellaSchool other = new UmbrellaSchool();
            Schools.run(other, "add 2");
            return other.errorPosition();
        });
    }

    private static void errorAt(UmbrellaSchool school, String script, int due) {
        equal("'" + script + "'", Schools.run(school, script), BAD_ARGUMENT);
        equal("the error position of '" + script + "'", school.errorPosition(), due);
    }

    private static void promise50FailedCommand() {
        UmbrellaSchool school = new UmbrellaSchool();
        raises("no script yet", NO_ELEMENT, () -> school.failedCommand());
        equal("a wrong form", Schools.run(school, "add"), BAD_ARGUMENT);
        raises("only a wrong form", NO_ELEMENT, () -> school.failedCommand());
        failsAt(school, "term", 0);
        failsAt(school, "add 3;add 20;add 02", 2);
        failsAt(school, "wet 1;train 0 00", 1);
        failsAt(school, "add 3;period 1 0", 1);
        failsAt(school, "add 3;forget 0 3;forget 0 4", 2);
        failsAt(school, "add 3;add 3;add 3;add 3;add 3;add 3;add 3;add 3", 6);
        equal("a right script", Schools.run(school, "add 3;train 0 00x9;period 0 9;wet 9;gale 0;exam 0 3;term"), 7);
        school.undo();
        equal("the latest one stays", school.failedCommand(), 6);
    }

    private static void failsAt(UmbrellaSchool school, String script, int due) {
        equal("'" + script + "'", Schools.run(school, script), BAD_STATE);
        equal("the failed command of '" + script + "'", school.failedCommand(), due);
        equal("no command took effect", school.umbrellaCount(), 0);
    }

    private static void promise51Undo() {
        UmbrellaSchool school = new UmbrellaSchool();
        raises("nothing to undo", BAD_STATE, () -> school.undo());
        school.addUmbrella(3);
        school.train(0, 3, 0, 9);
        school.setPeriod(0, 5);
        school.setWetPenalty(0);
        school.setGalePenalty(9);
        school.forgetRain(0, 3);
        school.examine(0, 3);
        school.endTerm();
        raises("a failed change does not count", BAD_ARGUMENT, () -> school.setWetPenalty(10));
        equal("endTerm", school.undo() * 10 + school.term(), 70);
        equal("the term reward is back", school.termReward(0), -54);
        equal("examine", school.undo() * 10 + (school.hasExam(0, 3) ? 1 : 0), 60);
        equal("forgetRain", school.undo() * 10 + school.rememberedTrials(0), 53);
        equal("setGalePenalty", school.undo() * 10 + school.galePenalty(), 43);
        equal("setWetPenalty", school.undo() * 10 + school.wetPenalty(), 32);
        equal("setPeriod", school.undo() * 10 + school.period(0), 20);
        equal("train", school.undo() * 10 + school.trials(0), 10);
        equal("its account", school.schoolRewardByActions(), 0);
        equal("addUmbrella", school.undo() * 10 + school.umbrellaCount(), 0);
        raises("nothing is left", BAD_STATE, () -> school.undo());
        undoKeepsTheLatestEight();
    }

    private static void undoKeepsTheLatestEight() {
        UmbrellaSchool school = new UmbrellaSchool();
        for (int penalty = 9; penalty >= 0; penalty--) {
            school.setWetPenalty(penalty);
        }
        school.setWetPenalty(0);
        equal("a change to the same state", school.undo() * 10 + school.wetPenalty(), 70);
        equal("the one before", school.undo() * 10 + school.wetPenalty(), 61);
        school.setGalePenalty(1);
        equal("a new change takes the place", school.undo() * 10 + school.galePenalty(), 63);
        for (int left = 5; left >= 0; left--) {
            equal("the others", school.undo() * 10 + school.wetPenalty(), left * 10 + 7 - left);
        }
        raises("no more than 8", BAD_STATE, () -> school.undo());
        equal("the penalty stays", school.wetPenalty(), 7);
        school.setWetPenalty(1);
        equal("a script's text stays over undo", school.type('t'), 1);
        school.undo();
        school.save();
        raises("save is no change", BAD_STATE, () -> school.undo());
        equal("the script's text", school.type('e'), 2);
    }

    private static void promise52Save() {
        UmbrellaSchool school = new UmbrellaSchool();
        equal("save without umbrellas", school.save(), 0);
        school.addUmbrella(3);
        school.addUmbrella(3);
        equal("save", school.save(), 2);
        equal("save leaves the changes", school.undo(), 1);
        equal("the snapshot is not undone", school.restore(), 2);
        school.train(0, 1, 0, 1);
        school.save();
        school.train(0, 1, 0, 2);
        school.restore();
        equal("the later snapshot", school.trials(0), 1);
    }

    private static void promise53Restore() {
        UmbrellaSchool school = Schools.explored(3);
        raises("no snapshot", BAD_STATE, () -> school.restore());
        equal("a failed restore leaves the changes", school.undo(), 2);
        school.train(0, 3, 1, 3);
        school.examine(0, 3);
        school.endTerm();
        school.save();
        school.train(0, 0, 2, 9);
        school.setPeriod(0, 1);
        school.setWetPenalty(9);
        school.setGalePenalty(9);
        school.addUmbrella(4);
        school.endTerm();
        school.examine(0, 2);
        Schools.run(school, "add");
        Schools.run(school, "add 2");
        school.renderUmbrella(1);
        equal("restore", school.restore(), 1);
        raises("nothing to undo then", BAD_STATE, () -> school.undo());
        equal("the output text stays", school.outputAt(2), '4');
        equal("the error position stays", school.errorPosition(), 3);
        equal("the failed command stays", school.failedCommand(), 0);
        equal("the umbrella", Schools.description(school, 0), "3/3p3*1:");
        equal("penalties", school.wetPenalty() * 10 + school.galePenalty(), 23);
        equal("term and rewards", school.term() * 100 + school.schoolReward(), 97);
        equal("the accounts", school.schoolRewardByActions(), -3);
        equal("the open share", school.openShare(), 1.0f / 3.0f);
        equal("the latest trial", school.trialReward(0, 0), 9);
        school.train(0, 0, 0, 9);
        equal("the snapshot is kept", school.restore(), 1);
        equal("the trials then", school.trials(0), 3);
        school.endTerm();
        equal("changes are counted anew", school.undo(), 0);
        equal("back to the snapshot", school.term() * 10 + school.trials(0), 13);
        restoreBringsTrialsAndMemoriesBack();
    }

    private static void restoreBringsTrialsAndMemoriesBack() {
        UmbrellaSchool school = Schools.with(5);
        school.train(0, 2, 1, 3);
        school.save();
        school.train(0, 1, 1, 5);
        equal("undo brings trials back", school.undo() * 10 + school.trialRain(0, 0), 22);
        school.undo();
        school.undo();
        school.addUmbrella(4);
        school.restore();
        equal("the memory", school.memory(0), 5);
        equal("the trials", school.trialRain(0, 2), 2);
        equal("consistent", school.isConsistent(), true);
    }
}
