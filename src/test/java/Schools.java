/** Schools to begin a test with, and what tests do with schools again and again. */
final class Schools {
    private Schools() {
    }

    /** A school with an umbrella for each memory. */
    static UmbrellaSchool with(int... memories) {
        UmbrellaSchool school = new UmbrellaSchool();
        for (int memory : memories) {
            school.addUmbrella(memory);
        }
        return school;
    }

    /** Umbrella 0 with the given memory remembers -6, -6 (closed) and 9 (open) in rain 3, wind 1. */
    static UmbrellaSchool explored(int memory) {
        UmbrellaSchool school = with(memory);
        school.setPeriod(0, 3);
        school.train(0, 3, 1, 3);
        return school;
    }

    /** Two umbrellas of which each number is another one; 12 changes, a snapshot, both faults of scripts. */
    static UmbrellaSchool busy() {
        UmbrellaSchool school = with(4, 20);
        school.setGalePenalty(2);
        school.train(1, 1, 1, 2);
        school.save();
        run(school, "add");
        run(school, "wet 5;add 2");
        school.setPeriod(0, 3);
        school.train(0, 3, 1, 5);
        school.train(1, 2, 0, 2);
        school.setPeriod(1, 2);
        school.train(1, 2, 3, 2);
        school.examine(1, 3);
        school.endTerm();
        school.train(0, 3, 1, 1);
        school.renderUmbrella(1);
        return school;
    }

    /** The same with a script in the buffer. */
    static UmbrellaSchool typing() {
        UmbrellaSchool school = busy();
        type(school, "wet 7;term");
        return school;
    }

    /** 6 umbrellas, the first and the last with a full memory, 60 characters in the buffer, 9 changes. */
    static UmbrellaSchool full() {
        UmbrellaSchool school = with(3, 4, 5, 6, 7, 9);
        school.train(5, 3, 3, 9);
        school.train(0, 1, 0, 4);
        school.save();
        school.endTerm();
        type(school, "term;".repeat(11) + "wet 9");
        return school;
    }

    /** A trial with the given action, whatever the habit is; the period is 0 or 1 then. */
    static int act(UmbrellaSchool school, int umbrella, int rain, int wind, boolean isOpen) {
        boolean isHabit = school.wouldOpen(umbrella, rain, wind) == isOpen;
        school.setPeriod(umbrella, isHabit ? 0 : 1);
        return school.train(umbrella, rain, wind, 1);
    }

    static int open(UmbrellaSchool school, int umbrella, int rain, int wind) {
        return act(school, umbrella, rain, wind, true);
    }

    static int close(UmbrellaSchool school, int umbrella, int rain, int wind) {
        return act(school, umbrella, rain, wind, false);
    }

    static void type(UmbrellaSchool school, String text) {
        for (int i = 0; i < text.length(); i++) {
            school.type(text.charAt(i));
        }
    }

    /** What runScript answers, or the class of what it throws. */
    static Object run(UmbrellaSchool school, String script) {
        type(school, script);
        return Checks.answerOf(() -> school.runScript());
    }

    /** The whole output text, as far as outputAt tells it. */
    static String output(UmbrellaSchool school) {
        StringBuilder text = new StringBuilder();
        for (int i = 0; i < 60; i++) {
            int index = i;
            if (!(Checks.answerOf(() -> school.outputAt(index)) instanceof Character sign)) {
                break;
            }
            text.append(sign);
        }
        return text.toString();
    }

    static String habits(UmbrellaSchool school, int umbrella) {
        school.renderHabits(umbrella);
        return output(school);
    }

    static String description(UmbrellaSchool school, int umbrella) {
        school.renderUmbrella(umbrella);
        return output(school);
    }

    static UmbrellaSchool undone(UmbrellaSchool school, int times) {
        for (int i = 0; i < times; i++) {
            Checks.answerOf(() -> school.undo());
        }
        return school;
    }

    static UmbrellaSchool restored(UmbrellaSchool school) {
        Checks.answerOf(() -> school.restore());
        return school;
    }
}
