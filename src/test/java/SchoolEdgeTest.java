/** The edges of promises 36 to 46: what is told of the school, and the output text. */
public final class SchoolEdgeTest extends Edges {
    private static final int MIN = Integer.MIN_VALUE;
    private static final int MAX = Integer.MAX_VALUE;

    public static void main(String[] args) {
        new SchoolEdgeTest().runAll();
    }

    /** Rewards -6, -6, 9 of umbrella 0, the last one open, and -2, -2 of umbrella 1. */
    private static UmbrellaSchool twoUmbrellas() {
        UmbrellaSchool school = Schools.explored(3);
        school.addUmbrella(3);
        school.train(1, 1, 0, 2);
        return school;
    }

    // ---- promises 36 to 38

    @Sentence(promise = 36, value = "Returns the wet penalty.")
    void wetPenalties() {
        UmbrellaSchool school = new UmbrellaSchool();
        equal("the initial one", school.wetPenalty(), 2);
        school.setWetPenalty(0);
        equal("the least one", school.wetPenalty(), 0);
        school.setWetPenalty(9);
        equal("the greatest one", school.wetPenalty(), 9);
        raises("one that is too great", BAD_ARGUMENT, () -> school.setWetPenalty(10));
        raises("one that is too small", BAD_ARGUMENT, () -> school.setWetPenalty(-1));
        school.setGalePenalty(5);
        equal("after refused ones", school.wetPenalty(), 9);
        Schools.undone(school, 3);
        equal("the initial one again", school.wetPenalty(), 2);
    }

    @Sentence(promise = 37, value = "Returns the gale penalty.")
    void galePenalties() {
        UmbrellaSchool school = new UmbrellaSchool();
        equal("the initial one", school.galePenalty(), 3);
        school.setGalePenalty(0);
        equal("the least one", school.galePenalty(), 0);
        school.setGalePenalty(9);
        equal("the greatest one", school.galePenalty(), 9);
        raises("one that is too great", BAD_ARGUMENT, () -> school.setGalePenalty(10));
        raises("one that is too small", BAD_ARGUMENT, () -> school.setGalePenalty(-1));
        school.setWetPenalty(5);
        equal("after refused ones", school.galePenalty(), 9);
        Schools.undone(school, 3);
        equal("the initial one again", school.galePenalty(), 3);
    }

    @Sentence(promise = 38, value = "Returns the number of terms that have ended.")
    void termsFromZero() {
        UmbrellaSchool school = new UmbrellaSchool();
        equal("none yet", school.term(), 0);
        raises("a refused end", BAD_STATE, () -> school.endTerm());
        equal("after a refused end", school.term(), 0);
        school.addUmbrella(3);
        for (int i = 1; i <= 12; i++) {
            school.endTerm();
            equal("one more", school.term(), i);
        }
        school.undo();
        equal("after undo", school.term(), 11);
    }

    // ---- promises 39 to 43

    @Sentence(promise = 39, value = "Returns the sum of the total rewards of all umbrellas, added umbrella by umbrella.")
    void schoolRewards() {
        equal("no umbrella", new UmbrellaSchool().schoolReward(), 0);
        equal("no trial", Schools.with(3, 3).schoolReward(), 0);
        equal("two umbrellas", twoUmbrellas().schoolReward(), -7);
        equal("of the first alone", Schools.explored(3).schoolReward(), -3);
        UmbrellaSchool school = Schools.with(3, 3, 3, 3, 3, 3);
        int[] due = {-6, 6, 0, 12, 6, 18};
        for (int i = 0; i < 6; i++) {
            Schools.act(school, i, 3, 0, i % 2 == 1);
            equal("umbrellas 0 to " + i, school.schoolReward(), due[i]);
        }
        school.endTerm();
        school.forgetRain(5, 3);
        equal("forgotten ones of all terms", school.schoolReward(), 18);
    }

    @Sentence(promise = 40, value = "Returns the same number as schoolReward, computed from the accounts")
    void schoolRewardsByActions() {
        equal("no umbrella", new UmbrellaSchool().schoolRewardByActions(), 0);
        equal("no trial", Schools.with(3, 3).schoolRewardByActions(), 0);
        equal("two umbrellas", twoUmbrellas().schoolRewardByActions(), -7);
        UmbrellaSchool school = Schools.with(3, 3, 3, 3, 3, 3);
        Schools.open(school, 5, 3, 0);
        equal("only opened", school.schoolRewardByActions(), 12);
        UmbrellaSchool closed = Schools.with(3);
        Schools.close(closed, 0, 3, 0);
        equal("only closed", closed.schoolRewardByActions(), -6);
        Schools.close(school, 0, 2, 0);
        equal("both", school.schoolRewardByActions(), 8);
        school.endTerm();
        school.forgetRain(5, 3);
        equal("forgotten ones of all terms", school.schoolRewardByActions(), 8);
        Schools.undone(school, 4);
        equal("only opened again", school.schoolRewardByActions(), 12);
    }

    @Sentence(promise = 41, value = "Throws `ArithmeticException` if there was no trial")
    void meanOfNoTrial() {
        refuses("no umbrella", NO_TRIAL, NEW, school -> school.meanSchoolReward());
        refuses("6 umbrellas without trials", NO_TRIAL, SchoolEdgeTest::untrained, school -> school.meanSchoolReward());
        UmbrellaSchool school = untrained();
        school.train(5, 1, 0, 1);
        equal("one trial of the last one", school.meanSchoolReward(), -2.0);
        school.undo();
        raises("the trial is undone", NO_TRIAL, () -> school.meanSchoolReward());
    }

    private static UmbrellaSchool untrained() {
        UmbrellaSchool school = Schools.with(3, 3, 3, 3, 3, 3);
        school.endTerm();
        return school;
    }

    @Sentence(promise = 41, value = "schoolReward divided by the number of all trials, both converted to double.")
    void means() {
        equal("two umbrellas", twoUmbrellas().meanSchoolReward(), -7.0 / 5.0);
        UmbrellaSchool school = twoUmbrellas();
        school.forgetRain(0, 3);
        school.forgetRain(1, 1);
        school.endTerm();
        equal("forgotten trials of all terms", school.meanSchoolReward(), -7.0 / 5.0);
        school.train(1, 0, 0, 1);
        equal("a sixth one, not as float", school.meanSchoolReward(), -7.0 / 6.0);
        UmbrellaSchool zero = Schools.with(3);
        zero.train(0, 0, 0, 1);
        equal("0 is 0.0, not -0.0", zero.meanSchoolReward(), 0.0);
        Schools.open(zero, 0, 3, 0);
        equal("the greatest mean of two", zero.meanSchoolReward(), 6.0);
    }

    @Sentence(promise = 42, value = "Throws `ArithmeticException` if there was no trial")
    void shareOfNoTrial() {
        refuses("no umbrella", NO_TRIAL, NEW, school -> school.openShare());
        refuses("6 umbrellas without trials", NO_TRIAL, SchoolEdgeTest::untrained, school -> school.openShare());
        UmbrellaSchool school = untrained();
        Schools.open(school, 5, 1, 0);
        equal("one trial of the last one", school.openShare(), 1.0f);
        school.undo();
        raises("the trial is undone", NO_TRIAL, () -> school.openShare());
    }

    @Sentence(promise = 42, value = "the share of the trials of all umbrellas in which an umbrella opened, both numbers converted to float.")
    void shares() {
        UmbrellaSchool school = Schools.with(3, 3);
        Schools.close(school, 0, 3, 0);
        equal("the least one", school.openShare(), 0.0f);
        Schools.open(school, 1, 3, 0);
        equal("a half", school.openShare(), 0.5f);
        Schools.close(school, 1, 3, 0);
        equal("a third, as float", school.openShare(), 1.0f / 3.0f);
        school.forgetRain(1, 3);
        school.endTerm();
        equal("forgotten trials of all terms", school.openShare(), 1.0f / 3.0f);
        UmbrellaSchool open = Schools.with(3, 3);
        Schools.open(open, 0, 0, 3);
        Schools.open(open, 1, 3, 0);
        equal("the greatest one", open.openShare(), 1.0f);
    }

    @Sentence(promise = 43, value = "Returns true if all of this holds.")
    void alwaysConsistent() {
        for (Everything.Maker maker : new Everything.Maker[] {
            NEW, SchoolEdgeTest::untrained, SchoolEdgeTest::twoUmbrellas, BUSY, TYPING, FULL}) {
            for (int times = 0; times <= 9; times++) {
                equal(times + " times undone", Schools.undone(maker.make(), times).isConsistent(), true);
            }
            equal("restored", Schools.restored(maker.make()).isConsistent(), true);
        }
        UmbrellaSchool school = Schools.with(3, 20);
        for (int penalty = 0; penalty <= 9; penalty++) {
            school.setWetPenalty(penalty);
            school.train(0, 3, 0, 9);
            school.train(1, 2, 1, 9);
            school.forgetRain(1, penalty % 4);
            school.endTerm();
            equal("with penalty " + penalty, school.isConsistent(), true);
        }
        Schools.run(school, "train 0 00x9;term;forget 0 0;add 3;add 2");
        equal("after a failed script", school.isConsistent(), true);
    }

    // ---- promises 44 to 46

    @Sentence(promise = 44, value = "Throws `IndexOutOfBoundsException` if there is no such umbrella")
    void habitsOfAStranger() {
        refusesStrangers("renderHabits", (school, wrong) -> school.renderHabits(wrong));
    }

    @Sentence(promise = 44, value = "Returns the length of the output text.")
    void habitsHave19Characters() {
        UmbrellaSchool school = Schools.with(20);
        equal("of a new one", school.renderHabits(0), 19);
        equal("all closed", Schools.output(school), "cccc/cccc/cccc/cccc");
        for (int i = 0; i < 16; i++) {
            Schools.open(school, 0, i / 4, i % 4);
        }
        equal("of one that always opens", school.renderHabits(0), 19);
        equal("all open", Schools.output(school), "oooo/oooo/oooo/oooo");
        Schools.description(school, 0);
        equal("in place of a shorter text", Schools.habits(school, 0), "oooo/oooo/oooo/oooo");
    }

    @Sentence(promise = 44, value = "for each rain from 0 to 3 the habits for the winds from 0 to 3 as four characters, \"o\" for opening and \"c\" for staying closed, with \"/\" between two rains")
    void habitsInTheirPlaces() {
        for (int i = 0; i < 16; i++) {
            UmbrellaSchool school = Schools.with(3, 3);
            Schools.open(school, 1, i / 4, i % 4);
            StringBuilder due = new StringBuilder("cccc/cccc/cccc/cccc");
            due.setCharAt(i / 4 * 5 + i % 4, 'o');
            equal("open in " + i, Schools.habits(school, 1), due.toString());
            equal("another one's", Schools.habits(school, 0), "cccc/cccc/cccc/cccc");
        }
    }

    @Sentence(promise = 45, value = "Throws `IndexOutOfBoundsException` if there is no such umbrella")
    void descriptionOfAStranger() {
        refusesStrangers("renderUmbrella", (school, wrong) -> school.renderUmbrella(wrong));
    }

    @Sentence(promise = 45, value = "the number of remembered trials, \"/\", the memory, \"p\" and the period, \"*\" and the stars, \":\", and each wind for which it has an exam in ascending order")
    void descriptions() {
        UmbrellaSchool school = Schools.with(20, 3);
        equal("the shortest", Schools.description(school, 1), "0/3p0*0:");
        for (int i = 4; i < 16; i++) {
            Schools.open(school, 0, i / 4, i % 4);
        }
        school.setPeriod(0, 9);
        school.train(0, 3, 0, 9);
        school.setGalePenalty(0);
        String[] exams = {"3", "13", "013", "0123"};
        int[] winds = {3, 1, 0, 2};
        for (int i = 0; i < 4; i++) {
            school.examine(0, winds[i]);
            equal("one exam more", Schools.description(school, 0), "20/20p9*0:" + exams[i]);
        }
        for (int i = 1; i <= 100; i++) {
            school.endTerm();
        }
        equal("the longest", Schools.description(school, 0), "20/20p9*100:0123");
        equal("another one's", Schools.description(school, 1), "0/3p0*0:");
    }

    @Sentence(promise = 45, value = "Returns the length of the output text.")
    void lengthsOfDescriptions() {
        UmbrellaSchool school = Schools.with(3, 20);
        equal("0/3p0*0:", school.renderUmbrella(0), 8);
        equal("0/20p0*0:", school.renderUmbrella(1), 9);
        school.train(0, 0, 0, 9);
        equal("3/3p0*0:", school.renderUmbrella(0), 8);
        school.setWetPenalty(0);
        school.setGalePenalty(9);
        school.examine(0, 2);
        equal("3/3p0*0:2", school.renderUmbrella(0), 9);
        school.train(1, 0, 0, 9);
        equal("9/20p0*0:", school.renderUmbrella(1), 9);
        school.train(1, 0, 0, 1);
        equal("10/20p0*0:", school.renderUmbrella(1), 10);
    }

    @Sentence(promise = 46, value = "Throws `IndexOutOfBoundsException` if there is no such index")
    void outputAtNoIndex() {
        for (int wrong : new int[] {MIN, -1, 0, 1, MAX}) {
            refuses("outputAt " + wrong + " of none", NO_INDEX, NEW, school -> school.outputAt(wrong));
        }
        equal("the text of 10", Schools.output(TYPING.make()), "6/20p2*0:3");
        for (int wrong : new int[] {MIN, -256, -1, 10, 11, 256, 65536, MAX}) {
            refuses("outputAt " + wrong + " of 10", NO_INDEX, TYPING, school -> school.outputAt(wrong));
        }
        for (int wrong : new int[] {-1, 19, 20}) {
            refuses("outputAt " + wrong + " of 19", NO_INDEX, SchoolEdgeTest::rendered, school -> school.outputAt(wrong));
        }
    }

    private static UmbrellaSchool rendered() {
        UmbrellaSchool school = Schools.with(3);
        school.renderHabits(0);
        return school;
    }

    @Sentence(promise = 46, value = "Returns a character of the output text, which is empty initially.")
    void outputFromTheFirstToTheLast() {
        UmbrellaSchool school = Schools.with(3);
        equal("empty at first", Schools.output(school), "");
        school.renderHabits(0);
        equal("the first of 19", school.outputAt(0), 'c');
        equal("a slash", school.outputAt(4), '/');
        equal("the last of 19", school.outputAt(18), 'c');
        school.renderUmbrella(0);
        equal("the first of 8", school.outputAt(0), '0');
        equal("the last of 8", school.outputAt(7), ':');
        raises("the longer text is gone", NO_INDEX, () -> school.outputAt(8));
        school.train(0, 3, 0, 3);
        equal("it is a text of its time", Schools.output(school), "0/3p0*0:");
    }
}
