import java.util.NoSuchElementException;

/** A school in which umbrellas learn when to open. README.md says how to use it. */
public final class UmbrellaSchool {
    private static final int MAX_UMBRELLAS = 6;
    private static final int MIN_MEMORY = 3;
    private static final int MAX_MEMORY = 20;
    private static final int MAX_PERIOD = 9;
    private static final int MAX_PENALTY = 9;
    private static final int MAX_TIMES = 9;
    private static final int FIRST_WET_PENALTY = 2;
    private static final int FIRST_GALE_PENALTY = 3;
    private static final int RAIN_GAIN = 4;
    private static final int LEVELS = 4;
    private static final int SITUATIONS = LEVELS * LEVELS;
    private static final int CASES = 2 * SITUATIONS;
    private static final int RIGHT_ANSWERS_TO_PASS = 3;
    private static final int ALL_EXAMS = (1 << LEVELS) - 1;
    private static final int MIN_CHARACTER = 32;
    private static final int MAX_CHARACTER = 126;
    private static final int MAX_SCRIPT = 60;
    private static final int MAX_UNDO = 8;
    private static final int NOWHERE = -1;
    private static final Command[] COMMANDS = Command.values();

    private final Books now = new Books();
    private final Books snapshot = new Books();
    // One row more than can be undone: the row behind the last one takes the books that a
    // script may have to go back to, while all 8 changes before it can still be undone.
    private final Books[] history = new Books[MAX_UNDO + 1];
    private final StringBuilder script = new StringBuilder();
    private final StringBuilder output = new StringBuilder();
    private int undoable = 0;
    private boolean hasSnapshot = false;
    private int errorAt = NOWHERE;
    private int failedAt = NOWHERE;

    public UmbrellaSchool() {
        for (int i = 0; i < history.length; i++) {
            history[i] = new Books();
        }
    }

    // ---- changes

    public int addUmbrella(int memory) throws IllegalArgumentException, IllegalStateException {
        return change(Command.ADD, memory, 0, 0, 0);
    }

    public int train(int umbrella, int rain, int wind, int trials)
            throws IndexOutOfBoundsException, IllegalArgumentException {
        return change(Command.TRAIN, umbrella, rain, wind, trials);
    }

    public int setPeriod(int umbrella, int period)
            throws IndexOutOfBoundsException, IllegalArgumentException {
        return change(Command.PERIOD, umbrella, period, 0, 0);
    }

    public int setWetPenalty(int penalty) throws IllegalArgumentException {
        return change(Command.WET, penalty, 0, 0, 0);
    }

    public int setGalePenalty(int penalty) throws IllegalArgumentException {
        return change(Command.GALE, penalty, 0, 0, 0);
    }

    public int forgetRain(int umbrella, int rain)
            throws IndexOutOfBoundsException, IllegalArgumentException {
        return change(Command.FORGET, umbrella, rain, 0, 0);
    }

    public int examine(int umbrella, int wind)
            throws IndexOutOfBoundsException, IllegalArgumentException {
        return change(Command.EXAM, umbrella, wind, 0, 0);
    }

    public int endTerm() throws IllegalStateException {
        return change(Command.TERM, 0, 0, 0, 0);
    }

    // ---- umbrellas and their trials

    public int umbrellaCount() {
        return now.count;
    }

    public int memory(int umbrella) throws IndexOutOfBoundsException {
        return now.umbrellaAt(umbrella).capacity;
    }

    public int period(int umbrella) throws IndexOutOfBoundsException {
        return now.umbrellaAt(umbrella).explorePeriod;
    }

    public int trials(int umbrella) throws IndexOutOfBoundsException {
        return now.umbrellaAt(umbrella).trialsMade;
    }

    public int rememberedTrials(int umbrella) throws IndexOutOfBoundsException {
        return now.umbrellaAt(umbrella).remembered;
    }

    public int trialRain(int umbrella, int recency)
            throws IndexOutOfBoundsException, NoSuchElementException {
        Umbrella pupil = now.umbrellaAt(umbrella);
        return rainOfCase(valueAt(pupil.trialCases, trialIndex(pupil, recency)));
    }

    public boolean trialOpened(int umbrella, int recency)
            throws IndexOutOfBoundsException, NoSuchElementException {
        Umbrella pupil = now.umbrellaAt(umbrella);
        return isOpenCase(valueAt(pupil.trialCases, trialIndex(pupil, recency)));
    }

    public int trialReward(int umbrella, int recency)
            throws IndexOutOfBoundsException, NoSuchElementException {
        Umbrella pupil = now.umbrellaAt(umbrella);
        return valueAt(pupil.trialRewards, trialIndex(pupil, recency));
    }

    // ---- rewards and habits

    public int reward(int rain, int wind, boolean isOpen) throws IllegalArgumentException {
        requireSituation(rain, wind);
        return now.rewardFor(rain, wind, isOpen);
    }

    public boolean shouldOpen(int rain, int wind) throws IllegalArgumentException {
        requireSituation(rain, wind);
        return now.openingPays(rain, wind);
    }

    public boolean wouldOpen(int umbrella, int rain, int wind)
            throws IndexOutOfBoundsException, IllegalArgumentException {
        Umbrella pupil = now.umbrellaAt(umbrella);
        requireSituation(rain, wind);
        return pupil.opensIn(situationOf(rain, wind));
    }

    public boolean exploresNext(int umbrella) throws IndexOutOfBoundsException {
        return now.umbrellaAt(umbrella).willExplore();
    }

    public int timesTried(int umbrella, int rain, int wind, boolean isOpen)
            throws IndexOutOfBoundsException, IllegalArgumentException {
        Umbrella pupil = now.umbrellaAt(umbrella);
        requireSituation(rain, wind);
        return valueAt(pupil.caseCounts, caseOf(rain, wind, isOpen));
    }

    public int rewardSum(int umbrella, int rain, int wind, boolean isOpen)
            throws IndexOutOfBoundsException, IllegalArgumentException {
        Umbrella pupil = now.umbrellaAt(umbrella);
        requireSituation(rain, wind);
        return valueAt(pupil.caseSums, caseOf(rain, wind, isOpen));
    }

    public int rewardSumByTrials(int umbrella, int rain, int wind, boolean isOpen)
            throws IndexOutOfBoundsException, IllegalArgumentException {
        Umbrella pupil = now.umbrellaAt(umbrella);
        requireSituation(rain, wind);
        return pupil.addUpTrials(caseOf(rain, wind, isOpen));
    }

    public double meanReward(int umbrella, int rain, int wind, boolean isOpen)
            throws IndexOutOfBoundsException, IllegalArgumentException, NoSuchElementException {
        Umbrella pupil = now.umbrellaAt(umbrella);
        requireSituation(rain, wind);
        int tried = caseOf(rain, wind, isOpen);
        int times = valueAt(pupil.caseCounts, tried);
        if (times == 0) {
            throw new NoSuchElementException("no such trial is remembered");
        }
        return (double) valueAt(pupil.caseSums, tried) / (double) times;
    }

    public int rightHabits(int umbrella) throws IndexOutOfBoundsException {
        Umbrella pupil = now.umbrellaAt(umbrella);
        int right = 0;
        for (int wind = 0; wind < LEVELS; wind++) {
            right += now.rightAnswers(pupil, wind);
        }
        return right;
    }

    public int knownSituations(int umbrella) throws IndexOutOfBoundsException {
        return now.umbrellaAt(umbrella).countKnownSituations();
    }

    public int situationRain(int umbrella, int rank)
            throws IndexOutOfBoundsException, NoSuchElementException {
        return rainOfSituation(rankedSituation(umbrella, rank));
    }

    public int situationWind(int umbrella, int rank)
            throws IndexOutOfBoundsException, NoSuchElementException {
        return windOfSituation(rankedSituation(umbrella, rank));
    }

    // ---- exams, rewards and stars of umbrellas

    public boolean hasExam(int umbrella, int wind)
            throws IndexOutOfBoundsException, IllegalArgumentException {
        Umbrella pupil = now.umbrellaAt(umbrella);
        if (!isLevel(wind)) {
            throw new IllegalArgumentException("the wind is not between 0 and 3");
        }
        return pupil.hasPassed(wind);
    }

    public boolean isGraduate(int umbrella) throws IndexOutOfBoundsException {
        return now.umbrellaAt(umbrella).exams == ALL_EXAMS;
    }

    public int totalReward(int umbrella) throws IndexOutOfBoundsException {
        return now.umbrellaAt(umbrella).rewardInAll;
    }

    public int termReward(int umbrella) throws IndexOutOfBoundsException {
        return now.umbrellaAt(umbrella).rewardInTerm;
    }

    public int stars(int umbrella) throws IndexOutOfBoundsException {
        return now.umbrellaAt(umbrella).starsWon;
    }

    public int umbrellaByStars(int rank) throws NoSuchElementException {
        int index = now.umbrellaAtRank(rank);
        if (index == NOWHERE) {
            throw new NoSuchElementException("there is no such rank");
        }
        return index;
    }

    // ---- the school

    public int wetPenalty() {
        return now.wet;
    }

    public int galePenalty() {
        return now.gale;
    }

    public int term() {
        return now.termsEnded;
    }

    public int schoolReward() {
        return now.rewardByUmbrellas();
    }

    public int schoolRewardByActions() {
        return now.rewardByActions();
    }

    public double meanSchoolReward() throws ArithmeticException {
        int made = now.countTrials();
        if (made == 0) {
            throw new ArithmeticException("there was no trial");
        }
        return (double) now.rewardByUmbrellas() / (double) made;
    }

    public float openShare() throws ArithmeticException {
        int made = now.countTrials();
        if (made == 0) {
            throw new ArithmeticException("there was no trial");
        }
        return (float) now.openTrials / (float) made;
    }

    public boolean isConsistent() {
        return now.agrees();
    }

    // ---- the output text

    public int renderHabits(int umbrella) throws IndexOutOfBoundsException {
        Umbrella pupil = now.umbrellaAt(umbrella);
        output.setLength(0);
        for (int situation = 0; situation < SITUATIONS; situation++) {
            if (situation > 0 && windOfSituation(situation) == 0) {
                output.append('/');
            }
            output.append(pupil.opensIn(situation) ? 'o' : 'c');
        }
        return output.length();
    }

    public int renderUmbrella(int umbrella) throws IndexOutOfBoundsException {
        Umbrella pupil = now.umbrellaAt(umbrella);
        output.setLength(0);
        output.append(pupil.remembered);
        output.append('/');
        output.append(pupil.capacity);
        output.append('p');
        output.append(pupil.explorePeriod);
        output.append('*');
        output.append(pupil.starsWon);
        output.append(':');
        for (int wind = 0; wind < LEVELS; wind++) {
            if (pupil.hasPassed(wind)) {
                output.append(wind);
            }
        }
        return output.length();
    }

    public char outputAt(int index) throws IndexOutOfBoundsException {
        if (index < 0 || index >= output.length()) {
            throw new IndexOutOfBoundsException("there is no such index");
        }
        return output.charAt(index);
    }

    // ---- scripts

    public int type(char character) throws IllegalArgumentException, IllegalStateException {
        if (!isBetween(character, MIN_CHARACTER, MAX_CHARACTER)) {
            throw new IllegalArgumentException("the character code is not between 32 and 126");
        }
        if (script.length() >= MAX_SCRIPT) {
            throw new IllegalStateException("the script buffer is full");
        }
        script.append(character);
        return script.length();
    }

    public int runScript() throws IllegalArgumentException, IllegalStateException {
        int wrongAt = findFormError();
        if (wrongAt != NOWHERE) {
            script.setLength(0);
            errorAt = wrongAt;
            throw new IllegalArgumentException("the script does not have the required form");
        }
        keepForUndo();
        int commands = countCommands();
        int done = 0;
        int start = 0;
        while (done < commands && runCommand(start)) {
            start = commandEnd(start) + 1;
            done++;
        }
        script.setLength(0);
        if (done < commands) {
            takeBack();
            failedAt = done;
            throw new IllegalStateException("a command of the script failed");
        }
        countChange();
        return commands;
    }

    public int errorPosition() throws NoSuchElementException {
        if (errorAt == NOWHERE) {
            throw new NoSuchElementException("every script had the required form");
        }
        return errorAt;
    }

    public int failedCommand() throws NoSuchElementException {
        if (failedAt == NOWHERE) {
            throw new NoSuchElementException("no script had a failed command");
        }
        return failedAt;
    }

    // ---- undo and the snapshot

    public int undo() throws IllegalStateException {
        if (undoable <= 0) {
            throw new IllegalStateException("there is nothing to undo");
        }
        undoable--;
        takeBack();
        return undoable;
    }

    public int save() {
        snapshot.copyFrom(now);
        hasSnapshot = true;
        return now.count;
    }

    public int restore() throws IllegalStateException {
        if (!hasSnapshot) {
            throw new IllegalStateException("there is no snapshot");
        }
        now.copyFrom(snapshot);
        undoable = 0;
        return now.count;
    }

    // ---- how a change is checked, made and kept

    private int change(Command command, int first, int second, int third, int fourth) {
        raise(refusalOf(command, first, second, third, fourth));
        keepForUndo();
        int answer = perform(command, first, second, third, fourth);
        countChange();
        return answer;
    }

    // A refusal is found apart from the change, so that a script can ask for it without
    // catching exceptions.
    private Refusal refusalOf(Command command, int first, int second, int third, int fourth) {
        switch (command) {
            case ADD:
                if (!isBetween(first, MIN_MEMORY, MAX_MEMORY)) {
                    return Refusal.ARGUMENT;
                }
                return now.count < MAX_UMBRELLAS ? Refusal.NOTHING : Refusal.STATE;
            case TRAIN:
                return refusalFor(first,
                        isLevel(second) && isLevel(third) && isBetween(fourth, 1, MAX_TIMES));
            case PERIOD:
                return refusalFor(first, isBetween(second, 0, MAX_PERIOD));
            case WET:
            case GALE:
                return isBetween(first, 0, MAX_PENALTY) ? Refusal.NOTHING : Refusal.ARGUMENT;
            case FORGET:
            case EXAM:
                return refusalFor(first, isLevel(second));
            default:
                return now.count > 0 ? Refusal.NOTHING : Refusal.STATE;
        }
    }

    private Refusal refusalFor(int umbrella, boolean isArgumentRight) {
        if (!isBetween(umbrella, 0, now.count - 1)) {
            return Refusal.UMBRELLA;
        }
        return isArgumentRight ? Refusal.NOTHING : Refusal.ARGUMENT;
    }

    private static void raise(Refusal refusal) {
        if (refusal == Refusal.UMBRELLA) {
            throw new IndexOutOfBoundsException("there is no such umbrella");
        }
        if (refusal == Refusal.ARGUMENT) {
            throw new IllegalArgumentException("an argument is not in its range");
        }
        if (refusal == Refusal.STATE) {
            throw new IllegalStateException("the number of umbrellas does not allow this");
        }
    }

    private int perform(Command command, int first, int second, int third, int fourth) {
        switch (command) {
            case ADD:
                return now.enrol(first);
            case TRAIN:
                return now.teach(now.umbrellaAt(first), second, third, fourth);
            case PERIOD:
                return now.umbrellaAt(first).changePeriod(second);
            case WET:
                return now.changeWet(first);
            case GALE:
                return now.changeGale(first);
            case FORGET:
                return now.umbrellaAt(first).forgetTrialsIn(second);
            case EXAM:
                return now.holdExam(now.umbrellaAt(first), second);
            default:
                return now.closeTerm();
        }
    }

    private void keepForUndo() {
        if (undoable >= 0 && undoable < history.length) {
            history[undoable].copyFrom(now);
        }
    }

    private void takeBack() {
        if (undoable >= 0 && undoable < history.length) {
            now.copyFrom(history[undoable]);
        }
    }

    private void countChange() {
        if (undoable < MAX_UNDO) {
            undoable++;
        } else {
            moveOldestToEnd();
        }
    }

    private void moveOldestToEnd() {
        for (int i = 1; i < history.length; i++) {
            Books earlier = history[i - 1];
            history[i - 1] = history[i];
            history[i] = earlier;
        }
    }

    // ---- how a script is read

    private int findFormError() {
        int start = 0;
        for (int i = 0; i <= script.length(); i++) {
            int end = commandEnd(start);
            if (commandAt(start, end) == null) {
                return start + longestMatch(start);
            }
            if (end >= script.length()) {
                return NOWHERE;
            }
            start = end + 1;
        }
        return NOWHERE;
    }

    private int countCommands() {
        int commands = 1;
        for (int i = 0; i < script.length(); i++) {
            if (script.charAt(i) == ';') {
                commands++;
            }
        }
        return commands;
    }

    /** Returns whether the command that starts there took effect. */
    private boolean runCommand(int start) {
        int end = commandEnd(start);
        Command command = commandAt(start, end);
        if (command == null) {
            return false;
        }
        int first = digitAt(start, end, 0);
        int second = digitAt(start, end, 1);
        int third = digitAt(start, end, 2);
        int fourth = digitAt(start, end, 3);
        if (command == Command.ADD && second != NOWHERE) {
            first = 10 * first + second;
        }
        if (command == Command.TRAIN && fourth == NOWHERE) {
            fourth = 1;
        }
        if (refusalOf(command, first, second, third, fourth) != Refusal.NOTHING) {
            return false;
        }
        perform(command, first, second, third, fourth);
        return true;
    }

    private int commandEnd(int start) {
        for (int i = start; i < script.length(); i++) {
            if (script.charAt(i) == ';') {
                return i;
            }
        }
        return script.length();
    }

    private Command commandAt(int start, int end) {
        for (Command command : COMMANDS) {
            int matched = matchedLength(command.form, start);
            boolean isWhole = matched == command.leastLength || matched == command.form.length();
            if (isWhole && matched == end - start) {
                return command;
            }
        }
        return null;
    }

    // No command's form is the beginning of another one's, so the character behind the longest
    // match is the first one that can't continue any script.
    private int longestMatch(int start) {
        int longest = 0;
        for (Command command : COMMANDS) {
            longest = Math.max(longest, matchedLength(command.form, start));
        }
        return longest;
    }

    private int matchedLength(String form, int start) {
        int matched = 0;
        while (matched < form.length() && start + matched < script.length()
                && fits(form.charAt(matched), script.charAt(start + matched))) {
            matched++;
        }
        return matched;
    }

    private static boolean fits(char form, char typed) {
        return form == '#' ? isDigit(typed) : form == typed;
    }

    private int digitAt(int start, int end, int rank) {
        int before = 0;
        for (int i = start; i < end && i < script.length(); i++) {
            char typed = script.charAt(i);
            if (isDigit(typed)) {
                if (before == rank) {
                    return typed - '0';
                }
                before++;
            }
        }
        return NOWHERE;
    }

    private static boolean isDigit(char typed) {
        return typed >= '0' && typed <= '9';
    }

    // ---- arguments

    private static boolean isBetween(int number, int least, int greatest) {
        return number >= least && number <= greatest;
    }

    private static boolean isLevel(int rainOrWind) {
        return isBetween(rainOrWind, 0, LEVELS - 1);
    }

    private static void requireSituation(int rain, int wind) {
        if (!isLevel(rain) || !isLevel(wind)) {
            throw new IllegalArgumentException("rain or wind is not between 0 and 3");
        }
    }

    private static int trialIndex(Umbrella pupil, int recency) {
        if (recency < 0 || recency >= pupil.remembered) {
            throw new NoSuchElementException("no such trial is remembered");
        }
        return pupil.remembered - 1 - recency;
    }

    private int rankedSituation(int umbrella, int rank) {
        int situation = now.umbrellaAt(umbrella).situationAtRank(rank);
        if (situation == NOWHERE) {
            throw new NoSuchElementException("there is no such rank");
        }
        return situation;
    }

    // ---- numbers of situations, and of cases: a case is a situation with an action

    private static int situationOf(int rain, int wind) {
        return rain * LEVELS + wind;
    }

    private static int rainOfSituation(int situation) {
        return situation / LEVELS;
    }

    private static int windOfSituation(int situation) {
        return situation % LEVELS;
    }

    private static int caseInSituation(int situation, boolean isOpen) {
        return 2 * situation + (isOpen ? 1 : 0);
    }

    private static int caseOf(int rain, int wind, boolean isOpen) {
        return caseInSituation(situationOf(rain, wind), isOpen);
    }

    private static int rainOfCase(int tried) {
        return rainOfSituation(tried / 2);
    }

    private static boolean isOpenCase(int tried) {
        return tried % 2 == 1;
    }

    // ---- rows: an index is tested here, for all rows, so that the machine never has to throw

    private static int valueAt(int[] row, int index) {
        return index >= 0 && index < row.length ? row[index] : 0;
    }

    private static void putAt(int[] row, int index, int value) {
        if (index >= 0 && index < row.length) {
            row[index] = value;
        }
    }

    private static void addAt(int[] row, int index, int amount) {
        if (index >= 0 && index < row.length) {
            row[index] += amount;
        }
    }

    private static void copyRow(int[] from, int[] to) {
        System.arraycopy(from, 0, to, 0, Math.min(from.length, to.length));
    }

    /** A command of the script language; in its form, # stands for any digit. */
    private enum Command {
        ADD("add ##", 5),
        TRAIN("train # ##x#", 10),
        PERIOD("period # #", 10),
        WET("wet #", 5),
        GALE("gale #", 6),
        FORGET("forget # #", 10),
        EXAM("exam # #", 8),
        TERM("term", 4);

        final String form;
        // The length without the part that may be left out.
        final int leastLength;

        Command(String form, int leastLength) {
            this.form = form;
            this.leastLength = leastLength;
        }
    }

    /** Why a change can't be made. */
    private enum Refusal {
        NOTHING, UMBRELLA, ARGUMENT, STATE
    }

    /** An umbrella, with its latest trials, the oldest one first. */
    private static final class Umbrella {
        final int[] trialCases = new int[MAX_MEMORY];
        final int[] trialRewards = new int[MAX_MEMORY];
        final int[] caseCounts = new int[CASES];
        final int[] caseSums = new int[CASES];
        int capacity = 0;
        int explorePeriod = 0;
        int trialsMade = 0;
        int remembered = 0;
        int rewardInAll = 0;
        int rewardInTerm = 0;
        int starsWon = 0;
        // A bit for each wind.
        int exams = 0;

        void copyFrom(Umbrella other) {
            copyRow(other.trialCases, trialCases);
            copyRow(other.trialRewards, trialRewards);
            copyRow(other.caseCounts, caseCounts);
            copyRow(other.caseSums, caseSums);
            capacity = other.capacity;
            explorePeriod = other.explorePeriod;
            trialsMade = other.trialsMade;
            remembered = other.remembered;
            rewardInAll = other.rewardInAll;
            rewardInTerm = other.rewardInTerm;
            starsWon = other.starsWon;
            exams = other.exams;
        }

        int changePeriod(int newPeriod) {
            int previous = explorePeriod;
            explorePeriod = newPeriod;
            return previous;
        }

        boolean willExplore() {
            return explorePeriod > 0 && (trialsMade + 1) % explorePeriod == 0;
        }

        boolean opensIn(int situation) {
            int open = caseInSituation(situation, true);
            int closed = caseInSituation(situation, false);
            int timesOpen = valueAt(caseCounts, open);
            int timesClosed = valueAt(caseCounts, closed);
            if (timesOpen == 0 || timesClosed == 0) {
                return timesOpen > 0;
            }
            // Means are compared exactly: both are multiplied by both numbers of trials.
            return valueAt(caseSums, open) * timesClosed > valueAt(caseSums, closed) * timesOpen;
        }

        void enterTrial(int tried, int gain) {
            trialsMade++;
            rewardInAll += gain;
            rewardInTerm += gain;
            putAt(trialCases, remembered, tried);
            putAt(trialRewards, remembered, gain);
            remembered++;
            countCase(tried, 1, gain);
        }

        void makeRoom() {
            if (remembered < capacity) {
                return;
            }
            countCase(valueAt(trialCases, 0), -1, -valueAt(trialRewards, 0));
            for (int i = 1; i < remembered; i++) {
                putAt(trialCases, i - 1, valueAt(trialCases, i));
                putAt(trialRewards, i - 1, valueAt(trialRewards, i));
            }
            remembered--;
        }

        int forgetTrialsIn(int rain) {
            int kept = 0;
            for (int i = 0; i < remembered; i++) {
                int tried = valueAt(trialCases, i);
                int gain = valueAt(trialRewards, i);
                if (rainOfCase(tried) == rain) {
                    countCase(tried, -1, -gain);
                } else {
                    putAt(trialCases, kept, tried);
                    putAt(trialRewards, kept, gain);
                    kept++;
                }
            }
            int forgotten = remembered - kept;
            remembered = kept;
            return forgotten;
        }

        void countCase(int tried, int times, int gain) {
            addAt(caseCounts, tried, times);
            addAt(caseSums, tried, gain);
        }

        int addUpTrials(int tried) {
            int sum = 0;
            for (int i = 0; i < remembered; i++) {
                if (valueAt(trialCases, i) == tried) {
                    sum += valueAt(trialRewards, i);
                }
            }
            return sum;
        }

        int timesIn(int situation) {
            return valueAt(caseCounts, caseInSituation(situation, true))
                    + valueAt(caseCounts, caseInSituation(situation, false));
        }

        int countKnownSituations() {
            int known = 0;
            for (int situation = 0; situation < SITUATIONS; situation++) {
                if (timesIn(situation) > 0) {
                    known++;
                }
            }
            return known;
        }

        int situationAtRank(int rank) {
            for (int situation = 0; situation < SITUATIONS; situation++) {
                if (timesIn(situation) > 0 && situationsBefore(situation) == rank) {
                    return situation;
                }
            }
            return NOWHERE;
        }

        // The numbers of situations ascend by rain, then by wind, as the order wants it.
        int situationsBefore(int situation) {
            int times = timesIn(situation);
            int before = 0;
            for (int other = 0; other < SITUATIONS; other++) {
                int otherTimes = timesIn(other);
                if (otherTimes > times || (otherTimes == times && other < situation)) {
                    before++;
                }
            }
            return before;
        }

        void noteExam(int wind, boolean isPassed) {
            int bit = 1 << wind;
            exams = isPassed ? exams | bit : exams & ~bit;
        }

        boolean hasPassed(int wind) {
            return (exams & (1 << wind)) != 0;
        }

        boolean sumsAgree() {
            for (int tried = 0; tried < CASES; tried++) {
                if (valueAt(caseSums, tried) != addUpTrials(tried)) {
                    return false;
                }
            }
            return true;
        }

        boolean ranksBefore(Umbrella other) {
            if (starsWon != other.starsWon) {
                return starsWon > other.starsWon;
            }
            return rewardInAll > other.rewardInAll;
        }
    }

    /** All that undo and the snapshot cover. */
    private static final class Books {
        final Umbrella[] umbrellas = new Umbrella[MAX_UMBRELLAS];
        int count = 0;
        int wet = FIRST_WET_PENALTY;
        int gale = FIRST_GALE_PENALTY;
        int termsEnded = 0;
        int openTrials = 0;
        int openReward = 0;
        int closedReward = 0;

        Books() {
            for (int i = 0; i < umbrellas.length; i++) {
                umbrellas[i] = new Umbrella();
            }
        }

        // The rows of umbrellas that are not there yet are copied too: they are the fresh ones
        // that addUmbrella relies on.
        void copyFrom(Books other) {
            for (int i = 0; i < umbrellas.length && i < other.umbrellas.length; i++) {
                umbrellas[i].copyFrom(other.umbrellas[i]);
            }
            count = other.count;
            wet = other.wet;
            gale = other.gale;
            termsEnded = other.termsEnded;
            openTrials = other.openTrials;
            openReward = other.openReward;
            closedReward = other.closedReward;
        }

        Umbrella umbrellaAt(int index) {
            if (index < 0 || index >= count || index >= umbrellas.length) {
                throw new IndexOutOfBoundsException("there is no such umbrella");
            }
            return umbrellas[index];
        }

        int enrol(int capacity) {
            int index = count;
            count++;
            umbrellaAt(index).capacity = capacity;
            return index;
        }

        int changeWet(int penalty) {
            int previous = wet;
            wet = penalty;
            return previous;
        }

        int changeGale(int penalty) {
            int previous = gale;
            gale = penalty;
            return previous;
        }

        int rewardFor(int rain, int wind, boolean isOpen) {
            return isOpen ? RAIN_GAIN * rain - gale * wind : -wet * rain;
        }

        boolean openingPays(int rain, int wind) {
            return rewardFor(rain, wind, true) > rewardFor(rain, wind, false);
        }

        int teach(Umbrella pupil, int rain, int wind, int times) {
            int situation = situationOf(rain, wind);
            int sum = 0;
            for (int i = 0; i < times; i++) {
                // The habit counts the oldest trial too, so room is made only after the action.
                boolean isOpen = pupil.opensIn(situation) != pupil.willExplore();
                int gain = rewardFor(rain, wind, isOpen);
                pupil.makeRoom();
                pupil.enterTrial(caseInSituation(situation, isOpen), gain);
                enterReward(isOpen, gain);
                sum += gain;
            }
            return sum;
        }

        void enterReward(boolean isOpen, int gain) {
            if (isOpen) {
                openTrials++;
                openReward += gain;
            } else {
                closedReward += gain;
            }
        }

        int holdExam(Umbrella pupil, int wind) {
            int right = rightAnswers(pupil, wind);
            pupil.noteExam(wind, right >= RIGHT_ANSWERS_TO_PASS);
            return right;
        }

        int rightAnswers(Umbrella pupil, int wind) {
            int right = 0;
            for (int rain = 0; rain < LEVELS; rain++) {
                if (pupil.opensIn(situationOf(rain, wind)) == openingPays(rain, wind)) {
                    right++;
                }
            }
            return right;
        }

        int closeTerm() {
            int best = 0;
            for (int i = 1; i < count; i++) {
                if (umbrellaAt(i).rewardInTerm > umbrellaAt(best).rewardInTerm) {
                    best = i;
                }
            }
            umbrellaAt(best).starsWon++;
            for (int i = 0; i < count; i++) {
                umbrellaAt(i).rewardInTerm = 0;
            }
            termsEnded++;
            return best;
        }

        int umbrellaAtRank(int rank) {
            for (int i = 0; i < count; i++) {
                if (umbrellasBefore(i) == rank) {
                    return i;
                }
            }
            return NOWHERE;
        }

        int umbrellasBefore(int index) {
            Umbrella pupil = umbrellaAt(index);
            int before = 0;
            for (int i = 0; i < count; i++) {
                Umbrella other = umbrellaAt(i);
                if (other.ranksBefore(pupil) || (i < index && !pupil.ranksBefore(other))) {
                    before++;
                }
            }
            return before;
        }

        int rewardByUmbrellas() {
            int sum = 0;
            for (int i = 0; i < count; i++) {
                sum += umbrellaAt(i).rewardInAll;
            }
            return sum;
        }

        int rewardByActions() {
            return openReward + closedReward;
        }

        int countTrials() {
            int sum = 0;
            for (int i = 0; i < count; i++) {
                sum += umbrellaAt(i).trialsMade;
            }
            return sum;
        }

        boolean agrees() {
            int starsInAll = 0;
            for (int i = 0; i < count; i++) {
                Umbrella pupil = umbrellaAt(i);
                if (pupil.remembered > pupil.capacity || !pupil.sumsAgree()) {
                    return false;
                }
                starsInAll += pupil.starsWon;
            }
            return starsInAll == termsEnded && rewardByUmbrellas() == rewardByActions();
        }
    }
}
