import java.util.ArrayList;
import java.util.List;

/**
 * All that the face tells of a school, a line for each answer. Each group of questions is put to a
 * school that was made anew, as an object is good for 512 calls and some questions change it.
 */
final class Everything {
    interface Maker {
        UmbrellaSchool make();
    }

    private static final int UNDO = 8;
    private static final int LONGEST_MEMORY = 20;

    private final List<String> lines = new ArrayList<>();
    private String when = "";

    static List<String> of(Maker maker) {
        Everything all = new Everything();
        all.askPresent(maker);
        all.askBuffer(maker);
        for (int times = 1; times <= UNDO + 1; times++) {
            int undone = times;
            all.when = times + " times undone: ";
            all.tell("undo", Checks.answerOf(() -> Schools.undone(maker.make(), undone - 1).undo()));
            all.askPresent(() -> Schools.undone(maker.make(), undone));
        }
        all.when = "restored: ";
        all.tell("restore", Checks.answerOf(() -> maker.make().restore()));
        all.askPresent(() -> Schools.restored(maker.make()));
        return all.lines;
    }

    /** The lines without those that have one of the words in them. */
    static List<String> besides(List<String> lines, String... words) {
        List<String> rest = new ArrayList<>(lines);
        for (String word : words) {
            rest.removeIf(line -> line.contains(word));
        }
        return rest;
    }

    private void tell(String question, Object answer) {
        lines.add(when + question + " = " + answer);
    }

    private void ask(String question, Checks.Call call) {
        tell(question, Checks.answerOf(call));
    }

    private void askPresent(Maker maker) {
        int umbrellas = maker.make().umbrellaCount();
        tell("umbrellaCount", umbrellas);
        askSchool(maker.make(), umbrellas);
        askRewards(maker.make());
        for (int umbrella = 0; umbrella < umbrellas; umbrella++) {
            askUmbrella(maker.make(), umbrella);
            askSituations(maker.make(), umbrella);
        }
    }

    private void askSchool(UmbrellaSchool school, int umbrellas) {
        ask("wetPenalty", () -> school.wetPenalty());
        ask("galePenalty", () -> school.galePenalty());
        ask("term", () -> school.term());
        ask("schoolReward", () -> school.schoolReward());
        ask("schoolRewardByActions", () -> school.schoolRewardByActions());
        ask("meanSchoolReward", () -> school.meanSchoolReward());
        ask("openShare", () -> school.openShare());
        ask("isConsistent", () -> school.isConsistent());
        ask("errorPosition", () -> school.errorPosition());
        ask("failedCommand", () -> school.failedCommand());
        ask("outputText", () -> Schools.output(school));
        for (int i = 0; i <= umbrellas; i++) {
            int rank = i;
            ask("umbrellaByStars " + rank, () -> school.umbrellaByStars(rank));
        }
    }

    private void askRewards(UmbrellaSchool school) {
        for (int i = 0; i < 16; i++) {
            int rain = i / 4;
            int wind = i % 4;
            ask("reward open " + rain + wind, () -> school.reward(rain, wind, true));
            ask("reward closed " + rain + wind, () -> school.reward(rain, wind, false));
            ask("shouldOpen " + rain + wind, () -> school.shouldOpen(rain, wind));
        }
    }

    private void askUmbrella(UmbrellaSchool school, int umbrella) {
        String whose = " of " + umbrella;
        ask("memory" + whose, () -> school.memory(umbrella));
        ask("period" + whose, () -> school.period(umbrella));
        ask("trials" + whose, () -> school.trials(umbrella));
        ask("rememberedTrials" + whose, () -> school.rememberedTrials(umbrella));
        ask("exploresNext" + whose, () -> school.exploresNext(umbrella));
        ask("rightHabits" + whose, () -> school.rightHabits(umbrella));
        ask("isGraduate" + whose, () -> school.isGraduate(umbrella));
        ask("totalReward" + whose, () -> school.totalReward(umbrella));
        ask("termReward" + whose, () -> school.termReward(umbrella));
        ask("stars" + whose, () -> school.stars(umbrella));
        for (int i = 0; i < 4; i++) {
            int wind = i;
            ask("hasExam" + whose + ", " + wind, () -> school.hasExam(umbrella, wind));
        }
        for (int i = 0; i <= LONGEST_MEMORY; i++) {
            int recency = i;
            ask("trialRain" + whose + ", " + recency, () -> school.trialRain(umbrella, recency));
            ask("trialOpened" + whose + ", " + recency, () -> school.trialOpened(umbrella, recency));
            ask("trialReward" + whose + ", " + recency, () -> school.trialReward(umbrella, recency));
        }
    }

    private void askSituations(UmbrellaSchool school, int umbrella) {
        String whose = " of " + umbrella + ", ";
        ask("knownSituations of " + umbrella, () -> school.knownSituations(umbrella));
        for (int i = 0; i < 16; i++) {
            int rain = i / 4;
            int wind = i % 4;
            ask("wouldOpen" + whose + rain + wind, () -> school.wouldOpen(umbrella, rain, wind));
            ask("situationRain" + whose + i, () -> school.situationRain(umbrella, 4 * rain + wind));
            ask("situationWind" + whose + i, () -> school.situationWind(umbrella, 4 * rain + wind));
            for (boolean isOpen : new boolean[] {false, true}) {
                String which = whose + rain + wind + isOpen;
                ask("timesTried" + which, () -> school.timesTried(umbrella, rain, wind, isOpen));
                ask("rewardSum" + which, () -> school.rewardSum(umbrella, rain, wind, isOpen));
                ask("rewardSumByTrials" + which, () -> school.rewardSumByTrials(umbrella, rain, wind, isOpen));
                ask("meanReward" + which, () -> school.meanReward(umbrella, rain, wind, isOpen));
            }
        }
    }

    private void askBuffer(Maker maker) {
        ask("buffer, length with one more", () -> maker.make().type(' '));
        UmbrellaSchool school = maker.make();
        ask("buffer, runScript", () -> school.runScript());
        ask("buffer, errorPosition", () -> school.errorPosition());
        ask("buffer, failedCommand", () -> school.failedCommand());
        ask("buffer, umbrellaCount", () -> school.umbrellaCount());
        ask("buffer, wetPenalty", () -> school.wetPenalty());
        ask("buffer, term", () -> school.term());
    }
}
