/** Which exception is thrown where several apply, for each method that lists more than one. */
public final class OrderEdgeTest extends Edges {
    private static final String ORDER = "If several exceptions apply, the one that is listed first is thrown.";

    // Rain and wind of no situation: the wrong one may be the first or the second.
    private static final int[][] NO_SITUATIONS = {{4, 0}, {0, 4}, {-1, 3}, {3, -1}, {4, 4}, {-1, -1}};

    private interface OfSituation {
        Object ask(UmbrellaSchool school, int umbrella, int rain, int wind);
    }

    private interface OfUmbrella {
        Object ask(UmbrellaSchool school, int umbrella, int number);
    }

    public static void main(String[] args) {
        new OrderEdgeTest().runAll();
    }

    /** No such umbrella and a wrong number: the umbrella is listed first. */
    private void strangerFirst(String what, int[] wrongNumbers, OfUmbrella call) {
        for (int wrong : wrongNumbers) {
            refuses(what + " " + wrong + " of umbrella 0 of none", NO_INDEX, NEW, school -> call.ask(school, 0, wrong));
            refuses(what + " " + wrong + " of umbrella 2 of 2", NO_INDEX, TYPING, school -> call.ask(school, 2, wrong));
            refuses(what + " " + wrong + " of umbrella -1", NO_INDEX, TYPING, school -> call.ask(school, -1, wrong));
        }
    }

    private void strangerFirst(String what, OfSituation call) {
        for (int[] wrong : NO_SITUATIONS) {
            strangerFirst(what + " " + wrong[0], new int[] {wrong[1]},
                    (school, umbrella, wind) -> call.ask(school, umbrella, wrong[0], wind));
        }
    }

    @Sentence(promise = 2, value = ORDER)
    void addUmbrella() {
        for (int wrong : NO_MEMORIES) {
            refuses("memory " + wrong + " and 6 umbrellas", BAD_ARGUMENT, FULL, school -> school.addUmbrella(wrong));
        }
        refuses("a right memory and 6 umbrellas", BAD_STATE, FULL, school -> school.addUmbrella(3));
    }

    @Sentence(promise = 3, value = ORDER)
    void train() {
        strangerFirst("train", (school, umbrella, rain, wind) -> school.train(umbrella, rain, wind, 1));
        strangerFirst("train without trials", (school, umbrella, rain, wind) -> school.train(umbrella, rain, wind, 0));
        strangerFirst("train, trials", NO_TIMES, (school, umbrella, trials) -> school.train(umbrella, 0, 0, trials));
    }

    @Sentence(promise = 4, value = ORDER)
    void setPeriod() {
        strangerFirst("setPeriod", NO_DIGITS, (school, umbrella, period) -> school.setPeriod(umbrella, period));
    }

    @Sentence(promise = 7, value = ORDER)
    void forgetRain() {
        strangerFirst("forgetRain", NO_LEVELS, (school, umbrella, rain) -> school.forgetRain(umbrella, rain));
    }

    @Sentence(promise = 8, value = ORDER)
    void examine() {
        strangerFirst("examine", NO_LEVELS, (school, umbrella, wind) -> school.examine(umbrella, wind));
    }

    @Sentence(promise = 15, value = ORDER)
    void trialRain() {
        strangerFirst("trialRain", new int[] {-1, 0, 20},
                (school, umbrella, recency) -> school.trialRain(umbrella, recency));
    }

    @Sentence(promise = 16, value = ORDER)
    void trialOpened() {
        strangerFirst("trialOpened", new int[] {-1, 0, 20},
                (school, umbrella, recency) -> school.trialOpened(umbrella, recency));
    }

    @Sentence(promise = 17, value = ORDER)
    void trialReward() {
        strangerFirst("trialReward", new int[] {-1, 0, 20},
                (school, umbrella, recency) -> school.trialReward(umbrella, recency));
    }

    @Sentence(promise = 20, value = ORDER)
    void wouldOpen() {
        strangerFirst("wouldOpen", (school, umbrella, rain, wind) -> school.wouldOpen(umbrella, rain, wind));
    }

    @Sentence(promise = 22, value = ORDER)
    void timesTried() {
        strangerFirst("timesTried", (school, umbrella, rain, wind) -> school.timesTried(umbrella, rain, wind, true));
    }

    @Sentence(promise = 23, value = ORDER)
    void rewardSum() {
        strangerFirst("rewardSum", (school, umbrella, rain, wind) -> school.rewardSum(umbrella, rain, wind, true));
    }

    @Sentence(promise = 24, value = ORDER)
    void rewardSumByTrials() {
        strangerFirst("rewardSumByTrials",
                (school, umbrella, rain, wind) -> school.rewardSumByTrials(umbrella, rain, wind, true));
    }

    @Sentence(promise = 25, value = ORDER)
    void meanReward() {
        strangerFirst("meanReward", (school, umbrella, rain, wind) -> school.meanReward(umbrella, rain, wind, true));
        // In rain 0, wind 0 nothing is remembered, so the third exception applies too.
        refuses("no umbrella and no trial", NO_INDEX, TYPING, school -> school.meanReward(2, 0, 0, true));
        for (int[] wrong : NO_SITUATIONS) {
            refuses("no situation and no trial", BAD_ARGUMENT, () -> Schools.with(3),
                    school -> school.meanReward(0, wrong[0], wrong[1], false));
        }
        refuses("only no trial", NO_ELEMENT, () -> Schools.with(3), school -> school.meanReward(0, 0, 0, false));
    }

    @Sentence(promise = 28, value = ORDER)
    void situationRain() {
        strangerFirst("situationRain", new int[] {-1, 0, 16},
                (school, umbrella, rank) -> school.situationRain(umbrella, rank));
    }

    @Sentence(promise = 29, value = ORDER)
    void situationWind() {
        strangerFirst("situationWind", new int[] {-1, 0, 16},
                (school, umbrella, rank) -> school.situationWind(umbrella, rank));
    }

    @Sentence(promise = 30, value = ORDER)
    void hasExam() {
        strangerFirst("hasExam", NO_LEVELS, (school, umbrella, wind) -> school.hasExam(umbrella, wind));
    }

    @Sentence(promise = 47, value = ORDER)
    void type() {
        for (int wrong : new int[] {0, 31, 127, 255, 65535}) {
            refuses("character " + wrong + " and 60 characters", BAD_ARGUMENT, FULL,
                    school -> school.type((char) wrong));
        }
        refuses("a right character and 60 characters", BAD_STATE, FULL, school -> school.type('t'));
    }

    @Sentence(promise = 48, value = ORDER)
    void runScript() {
        for (String script : new String[] {"add 2;", "add 2;x", "term 1", "train 9 99x0;exam 9"}) {
            UmbrellaSchool school = new UmbrellaSchool();
            equal("a command that would fail in '" + script + "'", Schools.run(school, script), BAD_ARGUMENT);
            raises("no command failed", NO_ELEMENT, () -> school.failedCommand());
        }
    }
}
