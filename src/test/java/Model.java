import java.util.ArrayList;
import java.util.Comparator;
import java.util.List;
import java.util.NoSuchElementException;
import java.util.regex.Matcher;
import java.util.regex.Pattern;

/**
 * The document once more, written apart from the class and as differently as it goes: trials are
 * kept in lists, everything else is counted anew, and undo keeps whole copies.
 */
final class Model {
    static final Pattern COMMAND = Pattern.compile(
            "add ([0-9][0-9]?)|train ([0-9]) ([0-9])([0-9])(?:x([0-9]))?|period ([0-9]) ([0-9])"
            + "|wet ([0-9])|gale ([0-9])|forget ([0-9]) ([0-9])|exam ([0-9]) ([0-9])|term");
    static final Pattern SCRIPT = Pattern.compile(
            "(?:" + COMMAND.pattern() + ")(?:;(?:" + COMMAND.pattern() + "))*");

    record Trial(int rain, int wind, boolean opened, int reward) {
    }

    record Place(int rain, int wind, int times) {
    }

    static final class Pupil {
        int memory;
        int period;
        int stars;
        int inTerm;
        boolean[] exams = new boolean[4];
        List<Trial> made = new ArrayList<>();
        List<Trial> kept = new ArrayList<>();

        Pupil copy() {
            Pupil copy = new Pupil();
            copy.memory = memory;
            copy.period = period;
            copy.stars = stars;
            copy.inTerm = inTerm;
            copy.exams = exams.clone();
            copy.made = new ArrayList<>(made);
            copy.kept = new ArrayList<>(kept);
            return copy;
        }

        List<Trial> keptIn(int rain, int wind, boolean opened) {
            List<Trial> found = new ArrayList<>();
            for (Trial trial : kept) {
                if (trial.rain == rain && trial.wind == wind && trial.opened == opened) {
                    found.add(trial);
                }
            }
            return found;
        }

        int sum(int rain, int wind, boolean opened) {
            return keptIn(rain, wind, opened).stream().mapToInt(Trial::reward).sum();
        }

        boolean habit(int rain, int wind) {
            int open = keptIn(rain, wind, true).size();
            int closed = keptIn(rain, wind, false).size();
            if (open == 0) {
                return false;
            }
            return closed == 0
                    || (long) sum(rain, wind, true) * closed > (long) sum(rain, wind, false) * open;
        }

        int total() {
            return made.stream().mapToInt(Trial::reward).sum();
        }

        List<Place> places() {
            List<Place> places = new ArrayList<>();
            for (int rain = 3; rain >= 0; rain--) {
                for (int wind = 3; wind >= 0; wind--) {
                    int times = keptIn(rain, wind, true).size() + keptIn(rain, wind, false).size();
                    if (times > 0) {
                        places.add(new Place(rain, wind, times));
                    }
                }
            }
            places.sort(Comparator.comparingInt((Place place) -> -place.times)
                    .thenComparingInt(Place::rain).thenComparingInt(Place::wind));
            return places;
        }
    }

    static final class State {
        List<Pupil> pupils = new ArrayList<>();
        int wet = 2;
        int gale = 3;
        int term = 0;

        State copy() {
            State copy = new State();
            for (Pupil pupil : pupils) {
                copy.pupils.add(pupil.copy());
            }
            copy.wet = wet;
            copy.gale = gale;
            copy.term = term;
            return copy;
        }
    }

    private State state = new State();
    private State snapshot = null;
    private List<State> past = new ArrayList<>();
    private String script = "";
    private String output = "";
    private Integer errorAt = null;
    private Integer failedAt = null;

    // ---- changes: the checks in the order of the document, then the effect

    private void changed(State before) {
        past.add(before);
        if (past.size() > 8) {
            past.remove(0);
        }
    }

    private static void argument(boolean isRight) {
        if (!isRight) {
            throw new IllegalArgumentException();
        }
    }

    private static void situation(int rain, int wind) {
        argument(rain >= 0 && rain <= 3 && wind >= 0 && wind <= 3);
    }

    private static void state(boolean isRight) {
        if (!isRight) {
            throw new IllegalStateException();
        }
    }

    private static void element(boolean isThere) {
        if (!isThere) {
            throw new NoSuchElementException();
        }
    }

    private Pupil pupil(int umbrella) {
        if (umbrella < 0 || umbrella >= state.pupils.size()) {
            throw new IndexOutOfBoundsException();
        }
        return state.pupils.get(umbrella);
    }

    private int doAdd(int memory) {
        argument(memory >= 3 && memory <= 20);
        state(state.pupils.size() < 6);
        Pupil pupil = new Pupil();
        pupil.memory = memory;
        state.pupils.add(pupil);
        return state.pupils.size() - 1;
    }

    private int doTrain(int umbrella, int rain, int wind, int trials) {
        Pupil pupil = pupil(umbrella);
        situation(rain, wind);
        argument(trials >= 1 && trials <= 9);
        int sum = 0;
        for (int i = 0; i < trials; i++) {
            boolean opened = pupil.habit(rain, wind);
            if (exploresNext(umbrella)) {
                opened = !opened;
            }
            Trial trial = new Trial(rain, wind, opened, reward(rain, wind, opened));
            pupil.made.add(trial);
            pupil.kept.add(trial);
            while (pupil.kept.size() > pupil.memory) {
                pupil.kept.remove(0);
            }
            pupil.inTerm += trial.reward;
            sum += trial.reward;
        }
        return sum;
    }

    private int doPeriod(int umbrella, int period) {
        Pupil pupil = pupil(umbrella);
        argument(period >= 0 && period <= 9);
        int previous = pupil.period;
        pupil.period = period;
        return previous;
    }

    private int doWet(int penalty) {
        argument(penalty >= 0 && penalty <= 9);
        int previous = state.wet;
        state.wet = penalty;
        return previous;
    }

    private int doGale(int penalty) {
        argument(penalty >= 0 && penalty <= 9);
        int previous = state.gale;
        state.gale = penalty;
        return previous;
    }

    private int doForget(int umbrella, int rain) {
        Pupil pupil = pupil(umbrella);
        argument(rain >= 0 && rain <= 3);
        int before = pupil.kept.size();
        pupil.kept.removeIf(trial -> trial.rain == rain);
        return before - pupil.kept.size();
    }

    private int doExam(int umbrella, int wind) {
        Pupil pupil = pupil(umbrella);
        argument(wind >= 0 && wind <= 3);
        int right = 0;
        for (int rain = 0; rain <= 3; rain++) {
            right += pupil.habit(rain, wind) == shouldOpen(rain, wind) ? 1 : 0;
        }
        pupil.exams[wind] = right >= 3;
        return right;
    }

    private int doTerm() {
        state(!state.pupils.isEmpty());
        int best = state.pupils.stream().mapToInt(pupil -> pupil.inTerm).max().getAsInt();
        int index = 0;
        while (state.pupils.get(index).inTerm != best) {
            index++;
        }
        state.pupils.get(index).stars++;
        state.pupils.forEach(pupil -> pupil.inTerm = 0);
        state.term++;
        return index;
    }

    private int change(Checks.Call call) {
        State before = state.copy();
        Object answer = call.run();
        changed(before);
        return (Integer) answer;
    }

    int addUmbrella(int memory) {
        return change(() -> doAdd(memory));
    }

    int train(int umbrella, int rain, int wind, int trials) {
        return change(() -> doTrain(umbrella, rain, wind, trials));
    }

    int setPeriod(int umbrella, int period) {
        return change(() -> doPeriod(umbrella, period));
    }

    int setWetPenalty(int penalty) {
        return change(() -> doWet(penalty));
    }

    int setGalePenalty(int penalty) {
        return change(() -> doGale(penalty));
    }

    int forgetRain(int umbrella, int rain) {
        return change(() -> doForget(umbrella, rain));
    }

    int examine(int umbrella, int wind) {
        return change(() -> doExam(umbrella, wind));
    }

    int endTerm() {
        return change(() -> doTerm());
    }

    // ---- questions

    int umbrellaCount() {
        return state.pupils.size();
    }

    int memory(int umbrella) {
        return pupil(umbrella).memory;
    }

    int period(int umbrella) {
        return pupil(umbrella).period;
    }

    int trials(int umbrella) {
        return pupil(umbrella).made.size();
    }

    int rememberedTrials(int umbrella) {
        return pupil(umbrella).kept.size();
    }

    private Trial trial(int umbrella, int recency) {
        List<Trial> kept = pupil(umbrella).kept;
        element(recency >= 0 && recency < kept.size());
        return kept.get(kept.size() - 1 - recency);
    }

    int trialRain(int umbrella, int recency) {
        return trial(umbrella, recency).rain;
    }

    boolean trialOpened(int umbrella, int recency) {
        return trial(umbrella, recency).opened;
    }

    int trialReward(int umbrella, int recency) {
        return trial(umbrella, recency).reward;
    }

    int reward(int rain, int wind, boolean isOpen) {
        situation(rain, wind);
        return isOpen ? 4 * rain - state.gale * wind : 0 - state.wet * rain;
    }

    boolean shouldOpen(int rain, int wind) {
        return reward(rain, wind, true) > reward(rain, wind, false);
    }

    boolean wouldOpen(int umbrella, int rain, int wind) {
        Pupil pupil = pupil(umbrella);
        situation(rain, wind);
        return pupil.habit(rain, wind);
    }

    boolean exploresNext(int umbrella) {
        Pupil pupil = pupil(umbrella);
        return pupil.period != 0 && (pupil.made.size() + 1) % pupil.period == 0;
    }

    int timesTried(int umbrella, int rain, int wind, boolean isOpen) {
        Pupil pupil = pupil(umbrella);
        situation(rain, wind);
        return pupil.keptIn(rain, wind, isOpen).size();
    }

    int rewardSum(int umbrella, int rain, int wind, boolean isOpen) {
        Pupil pupil = pupil(umbrella);
        situation(rain, wind);
        return pupil.sum(rain, wind, isOpen);
    }

    double meanReward(int umbrella, int rain, int wind, boolean isOpen) {
        int sum = rewardSum(umbrella, rain, wind, isOpen);
        int times = timesTried(umbrella, rain, wind, isOpen);
        element(times > 0);
        return (double) sum / (double) times;
    }

    int rightHabits(int umbrella) {
        Pupil pupil = pupil(umbrella);
        int right = 0;
        for (int rain = 0; rain <= 3; rain++) {
            for (int wind = 0; wind <= 3; wind++) {
                right += pupil.habit(rain, wind) == shouldOpen(rain, wind) ? 1 : 0;
            }
        }
        return right;
    }

    int knownSituations(int umbrella) {
        return pupil(umbrella).places().size();
    }

    private Place place(int umbrella, int rank) {
        List<Place> places = pupil(umbrella).places();
        element(rank >= 0 && rank < places.size());
        return places.get(rank);
    }

    int situationRain(int umbrella, int rank) {
        return place(umbrella, rank).rain;
    }

    int situationWind(int umbrella, int rank) {
        return place(umbrella, rank).wind;
    }

    boolean hasExam(int umbrella, int wind) {
        Pupil pupil = pupil(umbrella);
        argument(wind >= 0 && wind <= 3);
        return pupil.exams[wind];
    }

    boolean isGraduate(int umbrella) {
        boolean[] exams = pupil(umbrella).exams;
        return exams[0] && exams[1] && exams[2] && exams[3];
    }

    int totalReward(int umbrella) {
        return pupil(umbrella).total();
    }

    int termReward(int umbrella) {
        return pupil(umbrella).inTerm;
    }

    int stars(int umbrella) {
        return pupil(umbrella).stars;
    }

    int umbrellaByStars(int rank) {
        element(rank >= 0 && rank < state.pupils.size());
        List<Integer> order = new ArrayList<>();
        for (int i = state.pupils.size() - 1; i >= 0; i--) {
            order.add(i);
        }
        order.sort(Comparator.comparingInt((Integer i) -> -state.pupils.get(i).stars)
                .thenComparingInt(i -> -state.pupils.get(i).total()).thenComparingInt(i -> i));
        return order.get(rank);
    }

    int wetPenalty() {
        return state.wet;
    }

    int galePenalty() {
        return state.gale;
    }

    int term() {
        return state.term;
    }

    int schoolReward() {
        return state.pupils.stream().mapToInt(Pupil::total).sum();
    }

    private int allTrials() {
        int all = state.pupils.stream().mapToInt(pupil -> pupil.made.size()).sum();
        if (all == 0) {
            throw new ArithmeticException();
        }
        return all;
    }

    double meanSchoolReward() {
        int all = allTrials();
        return (double) schoolReward() / (double) all;
    }

    float openShare() {
        int all = allTrials();
        long open = state.pupils.stream().flatMap(pupil -> pupil.made.stream()).filter(Trial::opened).count();
        return (float) open / (float) all;
    }

    int renderHabits(int umbrella) {
        Pupil pupil = pupil(umbrella);
        List<String> rows = new ArrayList<>();
        for (int rain = 0; rain <= 3; rain++) {
            String row = "";
            for (int wind = 0; wind <= 3; wind++) {
                row += pupil.habit(rain, wind) ? "o" : "c";
            }
            rows.add(row);
        }
        output = String.join("/", rows);
        return output.length();
    }

    int renderUmbrella(int umbrella) {
        Pupil pupil = pupil(umbrella);
        output = pupil.kept.size() + "/" + pupil.memory + "p" + pupil.period + "*" + pupil.stars + ":";
        for (int wind = 0; wind <= 3; wind++) {
            output += pupil.exams[wind] ? "" + wind : "";
        }
        return output.length();
    }

    char outputAt(int index) {
        if (index < 0 || index >= output.length()) {
            throw new IndexOutOfBoundsException();
        }
        return output.charAt(index);
    }

    // ---- scripts

    int type(char character) {
        argument(character >= 32 && character <= 126);
        state(script.length() < 60);
        script += character;
        return script.length();
    }

    /** A beginning goes on to a script if it is one, or if more characters could make it one. */
    static boolean canGoOn(String beginning) {
        Matcher matcher = SCRIPT.matcher(beginning);
        return matcher.matches() || matcher.hitEnd();
    }

    static int errorOf(String script) {
        for (int i = 0; i < script.length(); i++) {
            if (!canGoOn(script.substring(0, i + 1))) {
                return i;
            }
        }
        return script.length();
    }

    int runScript() {
        String text = script;
        script = "";
        if (!SCRIPT.matcher(text).matches()) {
            errorAt = errorOf(text);
            throw new IllegalArgumentException();
        }
        State before = state.copy();
        String[] commands = text.split(";", -1);
        for (int i = 0; i < commands.length; i++) {
            try {
                runCommand(commands[i]);
            } catch (RuntimeException failed) {
                state = before;
                failedAt = i;
                throw new IllegalStateException();
            }
        }
        changed(before);
        return commands.length;
    }

    private void runCommand(String command) {
        Matcher found = COMMAND.matcher(command);
        if (!found.matches()) {
            throw new AssertionError(command);
        }
        int[] numbers = new int[4];
        int count = 0;
        for (int group = 1; group <= found.groupCount(); group++) {
            if (found.group(group) != null) {
                numbers[count] = Integer.parseInt(found.group(group));
                count++;
            }
        }
        switch (command.substring(0, 2)) {
            case "ad" -> doAdd(numbers[0]);
            case "tr" -> doTrain(numbers[0], numbers[1], numbers[2], count == 4 ? numbers[3] : 1);
            case "pe" -> doPeriod(numbers[0], numbers[1]);
            case "we" -> doWet(numbers[0]);
            case "ga" -> doGale(numbers[0]);
            case "fo" -> doForget(numbers[0], numbers[1]);
            case "ex" -> doExam(numbers[0], numbers[1]);
            default -> doTerm();
        }
    }

    int errorPosition() {
        element(errorAt != null);
        return errorAt;
    }

    int failedCommand() {
        element(failedAt != null);
        return failedAt;
    }

    // ---- undo and the snapshot

    int undo() {
        state(!past.isEmpty());
        state = past.remove(past.size() - 1);
        return past.size();
    }

    int save() {
        snapshot = state.copy();
        return state.pupils.size();
    }

    int restore() {
        state(snapshot != null);
        state = snapshot.copy();
        past.clear();
        return state.pupils.size();
    }
}
