import java.util.ArrayList;
import java.util.List;

/** Long runs of calls, drawn by a fixed rule: each answer and each exception is as the model's. */
public final class ModelTest {
    private static final int WALKS = 1500;
    private static final int CALLS = 512;
    private static final int[] ODD_NUMBERS = {
        Integer.MIN_VALUE, -2, -1, 4, 6, 9, 10, 16, 20, 21, 32, 60, 61, Integer.MAX_VALUE
    };

    private long seed;
    private int oddness;
    private UmbrellaSchool school;
    private Model model;
    private Checks checks;
    private String where;
    private int calls;

    public static void main(String[] args) {
        Checks checks = new Checks();
        for (int walk = 0; walk < WALKS; walk++) {
            new ModelTest().walk(walk, checks);
        }
        checks.finish("ModelTest");
    }

    private void walk(int number, Checks allChecks) {
        seed = number * 7919L + 17;
        oddness = 3 + number % 40;
        school = new UmbrellaSchool();
        model = new Model();
        checks = allChecks;
        calls = 0;
        where = "walk " + number;
        int early = draw(5);
        for (int i = 0; i < early; i++) {
            int memory = 3 + draw(18);
            same("addUmbrella", () -> school.addUmbrella(memory), () -> model.addUmbrella(memory));
        }
        while (calls < CALLS) {
            oneCall(draw(100));
        }
    }

    /** A linear congruential rule: the same walk each time. */
    private int draw(int bound) {
        seed = seed * 6364136223846793005L + 1442695040888963407L;
        return (int) ((seed >>> 33) % bound);
    }

    private int number(int least, int greatest) {
        if (draw(oddness) == 0) {
            return ODD_NUMBERS[draw(ODD_NUMBERS.length)];
        }
        return least + draw(greatest - least + 1);
    }

    private int umbrella() {
        return number(0, Math.max(0, model.umbrellaCount() - 1));
    }

    private void same(String what, Checks.Call ours, Checks.Call models) {
        if (calls < CALLS) {
            calls++;
            checks.equal(where + ", call " + calls + ": " + what,
                    Checks.answerOf(ours), Checks.answerOf(models));
        }
    }

    private void oneCall(int kind) {
        if (kind < 50) {
            changeSomething(kind);
        } else if (kind < 53) {
            typeAndRun(draw(3) == 0 ? spoilt(script()) : script());
        } else if (kind < 57) {
            same("undo", () -> school.undo(), () -> model.undo());
        } else if (kind < 58) {
            same("save", () -> school.save(), () -> model.save());
        } else if (kind < 59) {
            same("restore", () -> school.restore(), () -> model.restore());
        } else if (kind < 62) {
            int u = umbrella();
            boolean habits = draw(2) == 0;
            same("render", () -> habits ? school.renderHabits(u) : school.renderUmbrella(u),
                    () -> habits ? model.renderHabits(u) : model.renderUmbrella(u));
        } else if (kind < 66) {
            int index = number(0, 18);
            same("outputAt", () -> school.outputAt(index), () -> model.outputAt(index));
        } else if (kind < 77) {
            askSchool(draw(15));
        } else if (kind < 86) {
            askUmbrella(draw(12), umbrella());
        } else {
            askWithNumbers(draw(13), umbrella());
        }
    }

    private void changeSomething(int kind) {
        int u = umbrella();
        int rain = number(0, 3);
        int wind = number(0, 3);
        int digit = number(0, 9);
        int memory = number(3, 20);
        if (kind < 3) {
            same("addUmbrella " + memory, () -> school.addUmbrella(memory), () -> model.addUmbrella(memory));
        } else if (kind < 28) {
            int times = number(1, 9);
            same("train " + u + " " + rain + " " + wind + " " + times,
                    () -> school.train(u, rain, wind, times), () -> model.train(u, rain, wind, times));
        } else if (kind < 33) {
            same("setPeriod " + u + " " + digit, () -> school.setPeriod(u, digit), () -> model.setPeriod(u, digit));
        } else if (kind < 36) {
            same("setWetPenalty " + digit, () -> school.setWetPenalty(digit), () -> model.setWetPenalty(digit));
        } else if (kind < 39) {
            same("setGalePenalty " + digit, () -> school.setGalePenalty(digit), () -> model.setGalePenalty(digit));
        } else if (kind < 41) {
            same("forgetRain " + u + " " + rain, () -> school.forgetRain(u, rain), () -> model.forgetRain(u, rain));
        } else if (kind < 47) {
            same("examine " + u + " " + wind, () -> school.examine(u, wind), () -> model.examine(u, wind));
        } else {
            same("endTerm", () -> school.endTerm(), () -> model.endTerm());
        }
    }

    private void askSchool(int kind) {
        int rain = number(0, 3);
        int wind = number(0, 3);
        boolean open = draw(2) == 0;
        int rank = number(0, 5);
        switch (kind) {
            case 0 -> same("umbrellaCount", () -> school.umbrellaCount(), () -> model.umbrellaCount());
            case 1 -> same("wetPenalty", () -> school.wetPenalty(), () -> model.wetPenalty());
            case 2 -> same("galePenalty", () -> school.galePenalty(), () -> model.galePenalty());
            case 3 -> same("term", () -> school.term(), () -> model.term());
            case 4 -> same("schoolReward", () -> school.schoolReward(), () -> model.schoolReward());
            case 5 -> same("schoolRewardByActions", () -> school.schoolRewardByActions(), () -> model.schoolReward());
            case 6 -> same("meanSchoolReward", () -> school.meanSchoolReward(), () -> model.meanSchoolReward());
            case 7 -> same("openShare", () -> school.openShare(), () -> model.openShare());
            case 8 -> same("isConsistent", () -> school.isConsistent(), () -> true);
            case 9 -> same("errorPosition", () -> school.errorPosition(), () -> model.errorPosition());
            case 10 -> same("failedCommand", () -> school.failedCommand(), () -> model.failedCommand());
            case 11 -> same("reward", () -> school.reward(rain, wind, open), () -> model.reward(rain, wind, open));
            case 12 -> same("shouldOpen", () -> school.shouldOpen(rain, wind), () -> model.shouldOpen(rain, wind));
            case 13 -> {
                char sign = draw(2) == 0 ? (char) draw(300) : (char) draw(65536);
                same("type " + (int) sign, () -> school.type(sign), () -> model.type(sign));
            }
            default -> same("umbrellaByStars " + rank,
                    () -> school.umbrellaByStars(rank), () -> model.umbrellaByStars(rank));
        }
    }

    private void askUmbrella(int kind, int u) {
        switch (kind) {
            case 0 -> same("memory", () -> school.memory(u), () -> model.memory(u));
            case 1 -> same("period", () -> school.period(u), () -> model.period(u));
            case 2 -> same("trials", () -> school.trials(u), () -> model.trials(u));
            case 3 -> same("rememberedTrials", () -> school.rememberedTrials(u), () -> model.rememberedTrials(u));
            case 4 -> same("exploresNext", () -> school.exploresNext(u), () -> model.exploresNext(u));
            case 5 -> same("rightHabits", () -> school.rightHabits(u), () -> model.rightHabits(u));
            case 6 -> same("knownSituations", () -> school.knownSituations(u), () -> model.knownSituations(u));
            case 7 -> same("isGraduate", () -> school.isGraduate(u), () -> model.isGraduate(u));
            case 8 -> same("totalReward", () -> school.totalReward(u), () -> model.totalReward(u));
            case 9 -> same("termReward", () -> school.termReward(u), () -> model.termReward(u));
            default -> same("stars", () -> school.stars(u), () -> model.stars(u));
        }
    }

    private void askWithNumbers(int kind, int u) {
        int recency = number(0, 20);
        int rank = number(0, 6);
        int rain = number(0, 3);
        int wind = number(0, 3);
        boolean open = draw(2) == 0;
        switch (kind) {
            case 0 -> same("trialRain", () -> school.trialRain(u, recency), () -> model.trialRain(u, recency));
            case 1 -> same("trialOpened", () -> school.trialOpened(u, recency), () -> model.trialOpened(u, recency));
            case 2 -> same("trialReward", () -> school.trialReward(u, recency), () -> model.trialReward(u, recency));
            case 3 -> same("situationRain", () -> school.situationRain(u, rank), () -> model.situationRain(u, rank));
            case 4 -> same("situationWind", () -> school.situationWind(u, rank), () -> model.situationWind(u, rank));
            case 5 -> same("hasExam", () -> school.hasExam(u, wind), () -> model.hasExam(u, wind));
            case 6, 7 -> same("wouldOpen", () -> school.wouldOpen(u, rain, wind), () -> model.wouldOpen(u, rain, wind));
            case 8 -> same("timesTried",
                    () -> school.timesTried(u, rain, wind, open), () -> model.timesTried(u, rain, wind, open));
            case 9 -> same("rewardSum",
                    () -> school.rewardSum(u, rain, wind, open), () -> model.rewardSum(u, rain, wind, open));
            case 10 -> same("rewardSumByTrials",
                    () -> school.rewardSumByTrials(u, rain, wind, open), () -> model.rewardSum(u, rain, wind, open));
            default -> same("meanReward",
                    () -> school.meanReward(u, rain, wind, open), () -> model.meanReward(u, rain, wind, open));
        }
    }

    // ---- scripts

    private void typeAndRun(String script) {
        for (char sign : script.toCharArray()) {
            same("type " + sign, () -> school.type(sign), () -> model.type(sign));
        }
        same("runScript of " + script, () -> school.runScript(), () -> model.runScript());
        same("errorPosition", () -> school.errorPosition(), () -> model.errorPosition());
        same("failedCommand", () -> school.failedCommand(), () -> model.failedCommand());
    }

    private String script() {
        List<String> commands = new ArrayList<>();
        int count = 1 + draw(5);
        for (int i = 0; i < count; i++) {
            commands.add(command(draw(9)));
        }
        return String.join(";", commands);
    }

    private String command(int kind) {
        int u = Math.floorMod(umbrella(), 10);
        int level = draw(oddness) == 0 ? draw(10) : draw(4);
        int digit = draw(10);
        return switch (kind) {
            case 0 -> "add " + draw(oddness < 20 ? 25 : 15);
            case 1 -> "train " + u + " " + level + draw(4);
            case 2, 3 -> "train " + u + " " + draw(4) + level + "x" + digit;
            case 4 -> "period " + u + " " + digit;
            case 5 -> "wet " + digit;
            case 6 -> "gale " + digit;
            case 7 -> draw(2) == 0 ? "forget " + u + " " + level : "exam " + u + " " + level;
            default -> "term";
        };
    }

    private String spoilt(String script) {
        int at = draw(script.length());
        String sign = "" + (char) (32 + draw(95));
        return switch (draw(4)) {
            case 0 -> script.substring(0, at);
            case 1 -> script.substring(0, at) + script.substring(at + 1);
            case 2 -> script.substring(0, at) + sign + script.substring(at);
            default -> script.substring(0, at) + sign + script.substring(at + 1);
        };
    }
}
