/** The edges of scripts: the section of that name, and promises 47 to 50. */
public final class ScriptsEdgeTest extends Edges {
    private static final String[] LONGEST_COMMANDS = {
        "add 20", "train 1 33x9", "period 1 9", "wet 9", "gale 9", "forget 1 3", "exam 1 3", "term"
    };
    private static final String TWELVE_COMMANDS = "term;".repeat(11) + "term";
    private static final String SIXTY_CHARACTERS = "term;".repeat(11) + "wet 9";

    public static void main(String[] args) {
        new ScriptsEdgeTest().runAll();
    }

    private static Everything.Maker ran(Everything.Maker maker, String script) {
        return () -> {
            UmbrellaSchool school = maker.make();
            Schools.run(school, script);
            return school;
        };
    }

    // ---- the form of scripts

    private void standsFor(String script, Asking call) {
        equal("'" + script + "'", Schools.run(Schools.busy(), script), 1);
        same("'" + script + "'", ran(BUSY, script), () -> {
            UmbrellaSchool school = Schools.busy();
            call.ask(school);
            return school;
        });
    }

    @Sentence(promise = 0, value = "with the numbers as arguments in the order of the parameters")
    void commandsStandForMethods() {
        standsFor("add 3", school -> school.addUmbrella(3));
        standsFor("add 9", school -> school.addUmbrella(9));
        standsFor("add 10", school -> school.addUmbrella(10));
        standsFor("add 20", school -> school.addUmbrella(20));
        standsFor("train 0 00", school -> school.train(0, 0, 0, 1));
        standsFor("train 1 30", school -> school.train(1, 3, 0, 1));
        standsFor("train 1 03", school -> school.train(1, 0, 3, 1));
        standsFor("period 0 0", school -> school.setPeriod(0, 0));
        standsFor("period 1 9", school -> school.setPeriod(1, 9));
        standsFor("wet 0", school -> school.setWetPenalty(0));
        standsFor("wet 9", school -> school.setWetPenalty(9));
        standsFor("gale 0", school -> school.setGalePenalty(0));
        standsFor("gale 9", school -> school.setGalePenalty(9));
        standsFor("forget 0 3", school -> school.forgetRain(0, 3));
        standsFor("forget 1 0", school -> school.forgetRain(1, 0));
        standsFor("exam 0 3", school -> school.examine(0, 3));
        standsFor("exam 1 0", school -> school.examine(1, 0));
        standsFor("term", school -> school.endTerm());
    }

    @Sentence(promise = 0, value = "a number of trials after \"x\" is the argument trials of train, which is 1 without it")
    void trialsAfterX() {
        for (int times = 1; times <= 9; times++) {
            int trials = times;
            standsFor("train 1 20x" + times, school -> school.train(1, 2, 0, trials));
        }
        standsFor("train 1 20", school -> school.train(1, 2, 0, 1));
        equal("x0", Schools.run(Schools.busy(), "train 1 20x0"), BAD_STATE);
        equal("x10", Schools.run(Schools.busy(), "train 1 20x10"), BAD_ARGUMENT);
    }

    @Sentence(promise = 0, value = "where braces mean zero or more repetitions, brackets an optional part, and a bar an alternative.")
    void oneOrTwoDigitsAndOneOrMoreCommands() {
        standsFor("add 03", school -> school.addUmbrella(3));
        standsFor("add 09", school -> school.addUmbrella(9));
        equal("one command", Schools.run(Schools.busy(), "term"), 1);
        equal("two commands", Schools.run(Schools.busy(), "term;term"), 2);
        equal("twelve commands", Schools.run(Schools.busy(), TWELVE_COMMANDS), 12);
        equal("each command of the language", Schools.run(new UmbrellaSchool(),
                "add 3;train 0 00;period 0 0;wet 0;gale 0;forget 0 0;exam 0 0"), 7);
        equal("no digit", Schools.run(Schools.busy(), "add "), BAD_ARGUMENT);
        equal("three digits", Schools.run(Schools.busy(), "add 003"), BAD_ARGUMENT);
        equal("no command", Schools.run(Schools.busy(), ""), BAD_ARGUMENT);
        equal("nothing after the last semicolon", Schools.run(Schools.busy(), "term;"), BAD_ARGUMENT);
        equal("nothing before the first semicolon", Schools.run(Schools.busy(), ";term"), BAD_ARGUMENT);
        equal("nothing between two semicolons", Schools.run(Schools.busy(), "term;;term"), BAD_ARGUMENT);
    }

    @Sentence(promise = 0, value = "The commands are executed in order, and either all of them take effect or none.")
    void commandsInOrder() {
        String script = "period 0 1;train 0 30;gale 9;train 0 31x2;forget 0 0;term";
        equal("six commands", Schools.run(Schools.busy(), script), 6);
        same("six commands in order", ran(BUSY, script), () -> {
            UmbrellaSchool school = Schools.busy();
            school.setPeriod(0, 1);
            school.train(0, 3, 0, 1);
            school.setGalePenalty(9);
            school.train(0, 3, 1, 2);
            school.forgetRain(0, 0);
            school.endTerm();
            return school;
        }, "undo", "undone");
        same("a new umbrella can be used at once", ran(NEW, "add 5;train 0 10;add 6;train 1 20x2"), () -> {
            UmbrellaSchool school = Schools.with(5);
            school.train(0, 1, 0, 1);
            school.addUmbrella(6);
            school.train(1, 2, 0, 2);
            return school;
        }, "undo", "undone");
    }

    @Sentence(promise = 0, value = "The commands are executed in order, and either all of them take effect or none.")
    void noneOfTheCommandsTakesEffect() {
        String[] failing = {"add 2", "add 21", "train 3 00", "train 0 40", "train 0 04", "train 0 00x0",
            "period 3 0", "forget 3 0", "forget 0 4", "exam 3 0", "exam 0 4"};
        for (String last : failing) {
            String script = "wet 9;add 3;train 1 31x9;term;" + last;
            equal("'" + last + "' as the fifth", Schools.run(Schools.busy(), script), BAD_STATE);
            same("all is as before '" + last + "'", ran(BUSY, script), BUSY, "failedCommand");
            same("a later command is not run", ran(BUSY, last + ";wet 9;add 3"), BUSY, "failedCommand");
        }
        same("all is as before with few changes", ran(() -> Schools.with(3, 4), "term;wet 9;add 2"),
                () -> Schools.with(3, 4), "failedCommand");
        same("all is as before with no change", ran(NEW, "add 3;term;train 0 31x9;exam 1 0"), NEW, "failedCommand");
    }

    // ---- promise 47

    @Sentence(promise = 47, value = "Throws `IllegalArgumentException` if the character code is not between 32 and 126")
    void charactersFrom32To126() {
        UmbrellaSchool school = new UmbrellaSchool();
        int length = 0;
        for (int code = 32; code <= 126; code++) {
            if (length == 60) {
                raises("runScript", BAD_ARGUMENT, () -> school.runScript());
                length = 0;
            }
            length++;
            equal("type " + code, school.type((char) code), length);
        }
        for (int wrong : new int[] {0, 9, 10, 31, 127, 128, 255, 256 + 97, 32767, 32768, 65535}) {
            refuses("type " + wrong, BAD_ARGUMENT, TYPING, other -> other.type((char) wrong));
            refuses("type " + wrong + " first", BAD_ARGUMENT, NEW, other -> other.type((char) wrong));
        }
    }

    @Sentence(promise = 47, value = "Throws `IllegalStateException` if the script buffer has 60 characters")
    void atMostSixtyCharacters() {
        UmbrellaSchool school = new UmbrellaSchool();
        for (int length = 1; length <= 60; length++) {
            equal("type", school.type('t'), length);
        }
        raises("the 61st", BAD_STATE, () -> school.type('t'));
        raises("the 61st again", BAD_STATE, () -> school.type('t'));
        raises("runScript", BAD_ARGUMENT, () -> school.runScript());
        equal("the first one of the next script", school.type('t'), 1);
        refuses("type ';' with 60 characters", BAD_STATE, FULL, full -> full.type(';'));
        refuses("type ' ' with 60 characters", BAD_STATE, FULL, full -> full.type(' '));
        refuses("type '~' with 60 characters", BAD_STATE, FULL, full -> full.type('~'));
        equal("the 60 are a script", FULL.make().runScript(), 12);
    }

    @Sentence(promise = 47, value = "Returns the length of the script buffer.")
    void lengthsFrom1To60() {
        UmbrellaSchool school = new UmbrellaSchool();
        for (int i = 0; i < 60; i++) {
            equal("type", school.type(SIXTY_CHARACTERS.charAt(i)), i + 1);
            raises("a wrong one", BAD_ARGUMENT, () -> school.type('\n'));
        }
        school.addUmbrella(3);
        equal("the script has no wrong ones", school.runScript(), 12);
    }

    // ---- promise 48

    @Sentence(promise = 48, value = "The buffer is empty afterwards, also if an exception is thrown.")
    void theBufferIsEmptyAfterwards() {
        for (String script : new String[] {"term", "wet 3;gale 4", "term;", "x", "", "wet 1;add 2", SIXTY_CHARACTERS}) {
            UmbrellaSchool school = Schools.busy();
            Schools.run(school, script);
            equal("one character after '" + script + "'", school.type('t'), 1);
            equal("only the next script is run", Schools.run(school, "erm"), 1);
            equal("an empty script after it", Checks.answerOf(() -> school.runScript()), BAD_ARGUMENT);
        }
    }

    @Sentence(promise = 48, value = "Returns the number of commands.")
    void numbersOfCommands() {
        for (int commands = 1; commands <= 12; commands++) {
            UmbrellaSchool school = Schools.with(3);
            equal("runScript", Schools.run(school, "term;".repeat(commands - 1) + "term"), commands);
            equal("term", school.term(), commands);
            equal("one change", school.undo(), 1);
            equal("all undone", school.term(), 0);
        }
    }

    @Sentence(promise = 48, value = "Throws `IllegalArgumentException` if the script does not have the required form; errorPosition then returns its error position")
    void wrongForms() {
        misformed("", 0);
        misformed("x", 0);
        misformed("Term", 0);
        misformed("term term", 4);
        misformed("term;", 5);
        misformed("wet 10", 5);
        misformed("add 3;wet", 9);
        misformed("term;".repeat(12), 60);
    }

    private void misformed(String script, int due) {
        equal("'" + script + "'", Schools.run(Schools.busy(), script), BAD_ARGUMENT);
        equal("errorPosition of '" + script + "'", ran(BUSY, script).make().errorPosition(), due);
        same("all is as before '" + script + "'", ran(BUSY, script), BUSY, "errorPosition");
    }

    @Sentence(promise = 48, value = "Throws `IllegalStateException` if the method for a command throws an exception; no command takes effect, and failedCommand then returns the index of that command")
    void failedCommands() {
        // Every exception of every method comes out as the same one.
        fails(BUSY, "add 2");
        fails(BUSY, "add 21");
        fails(BUSY, "add 0");
        fails(BUSY, "add 00");
        fails(BUSY, "add 99");
        fails(() -> Schools.with(3, 3, 3, 3, 3, 3), "add 3");
        fails(BUSY, "train 2 00");
        fails(BUSY, "train 9 99x0");
        fails(BUSY, "train 1 40");
        fails(BUSY, "train 1 04");
        fails(BUSY, "train 1 33x0");
        fails(BUSY, "period 2 9");
        fails(BUSY, "forget 2 3");
        fails(BUSY, "forget 1 4");
        fails(BUSY, "exam 2 3");
        fails(BUSY, "exam 1 4");
        fails(NEW, "term");
        fails(NEW, "train 0 00");
    }

    private void fails(Everything.Maker maker, String script) {
        equal("'" + script + "'", Schools.run(maker.make(), script), BAD_STATE);
        equal("failedCommand of '" + script + "'", ran(maker, script).make().failedCommand(), 0);
        same("all is as before '" + script + "'", ran(maker, script), maker, "failedCommand");
    }

    // ---- promise 49

    private void errorAt(String script, int due) {
        UmbrellaSchool school = Schools.with(3, 3);
        equal("'" + script + "'", Schools.run(school, script), BAD_ARGUMENT);
        equal("errorPosition of '" + script + "'", school.errorPosition(), due);
    }

    @Sentence(promise = 0, value = "the index of the first character that cannot continue any script of this form")
    void theFirstWrongCharacter() {
        for (String command : LONGEST_COMMANDS) {
            for (int i = 0; i < command.length(); i++) {
                errorAt(command.substring(0, i) + "!" + command.substring(i), i);
                errorAt("term;" + command.substring(0, i) + "!" + command.substring(i), 5 + i);
                errorAt("wet 3;gale 4;" + command.substring(0, i) + "A", 13 + i);
            }
            errorAt(command + "0", command.length());
            errorAt(command + " ", command.length());
            errorAt(command + " ;", command.length());
            errorAt(command + "; " + command, command.length() + 1);
            errorAt(command + ";;" + command, command.length() + 1);
        }
    }

    @Sentence(promise = 0, value = "the index of the first character that cannot continue any script of this form")
    void charactersBesideTheRightOnes() {
        errorAt("wet /", 4);
        errorAt("wet :", 4);
        errorAt("wet ;", 4);
        errorAt("gale /", 5);
        errorAt("gale :", 5);
        errorAt("add /", 4);
        errorAt("add :", 4);
        errorAt("add 1/", 5);
        errorAt("add 1:", 5);
        errorAt("term:", 4);
        errorAt("term,", 4);
        errorAt("TERM", 0);
        errorAt("adD 3", 2);
        errorAt("te m", 2);
        errorAt("trm", 2);
        errorAt("perm", 3);
        errorAt("train 0  0", 8);
        errorAt("train 00", 7);
        errorAt("train 0 0 0", 9);
        errorAt("train 0 00 x1", 10);
        errorAt("train 0 00X1", 10);
        errorAt("train 0 00;x1", 11);
        errorAt("period 00", 8);
        errorAt("forget 0;", 8);
        errorAt("exam 0;", 6);
        errorAt(" term", 0);
        errorAt(";", 0);
    }

    @Sentence(promise = 0, value = "or the length of the script if every character can and the end comes too early.")
    void theEndComesTooEarly() {
        errorAt("", 0);
        for (String command : LONGEST_COMMANDS) {
            int shortest = shortestForm(command);
            for (int i = 0; i < command.length(); i++) {
                if (i != shortest) {
                    errorAt(command.substring(0, i), i);
                    errorAt("term;" + command.substring(0, i), 5 + i);
                }
            }
            errorAt(command + ";", command.length() + 1);
            equal("'" + command + "' is whole", Schools.run(Schools.with(3, 3), command), 1);
            equal("its shortest form too", Schools.run(Schools.with(3, 3), command.substring(0, shortest)),
                    command.equals("add 20") ? (Object) BAD_STATE : 1);
        }
        errorAt("term;".repeat(12), 60);
        errorAt("term;".repeat(11) + "gale ", 60);
    }

    private static int shortestForm(String command) {
        if (command.equals("add 20")) {
            return "add 2".length();
        }
        return command.indexOf('x') > 0 && command.startsWith("train") ? command.indexOf('x') : command.length();
    }

    @Sentence(promise = 49, value = "Throws `NoSuchElementException` if there was no such script")
    void noWrongFormYet() {
        refuses("errorPosition of a new one", NO_ELEMENT, NEW, school -> school.errorPosition());
        refuses("errorPosition after a right script", NO_ELEMENT, ran(NEW, "wet 3"), school -> school.errorPosition());
        refuses("errorPosition after a failed command", NO_ELEMENT, ran(NEW, "add 2"), school -> school.errorPosition());
        refuses("errorPosition of a script that is not run", NO_ELEMENT, () -> {
            UmbrellaSchool school = new UmbrellaSchool();
            Schools.type(school, "x");
            return school;
        }, school -> school.errorPosition());
    }

    @Sentence(promise = 49, value = "Returns the error position of the latest script that did not have the required form.")
    void theLatestWrongForm() {
        UmbrellaSchool school = new UmbrellaSchool();
        Schools.run(school, "wet 55");
        equal("the first one", school.errorPosition(), 5);
        Schools.run(school, "");
        equal("the least", school.errorPosition(), 0);
        Schools.run(school, "term;".repeat(12));
        equal("the greatest", school.errorPosition(), 60);
        Schools.run(school, "wet 3");
        equal("after a right script", school.errorPosition(), 60);
        Schools.run(school, "add 2");
        equal("after a failed command", school.errorPosition(), 60);
        Schools.type(school, "x");
        equal("before the next one is run", school.errorPosition(), 60);
        raises("the next one", BAD_ARGUMENT, () -> school.runScript());
        equal("the next one's", school.errorPosition(), 0);
    }

    // ---- promise 50

    @Sentence(promise = 50, value = "Throws `NoSuchElementException` if there was no such script")
    void noFailedCommandYet() {
        refuses("failedCommand of a new one", NO_ELEMENT, NEW, school -> school.failedCommand());
        refuses("failedCommand after a right script", NO_ELEMENT, ran(NEW, "wet 3"), school -> school.failedCommand());
        refuses("failedCommand after a wrong form", NO_ELEMENT, ran(NEW, "x"), school -> school.failedCommand());
        refuses("failedCommand after a failed call", NO_ELEMENT, () -> {
            UmbrellaSchool school = new UmbrellaSchool();
            Checks.answerOf(() -> school.addUmbrella(2));
            Schools.type(school, "add 2");
            return school;
        }, school -> school.failedCommand());
    }

    @Sentence(promise = 50, value = "Returns the index of the command, counted from 0.")
    void indicesFrom0To11() {
        for (int index = 0; index <= 11; index++) {
            UmbrellaSchool school = Schools.with(3);
            equal("runScript", Schools.run(school, "term;".repeat(index) + "add 2"), BAD_STATE);
            equal("failedCommand", school.failedCommand(), index);
            equal("term", school.term(), 0);
        }
        UmbrellaSchool school = new UmbrellaSchool();
        equal("two bad ones", Schools.run(school, "wet 1;add 2;add 2"), BAD_STATE);
        equal("the first of two", school.failedCommand(), 1);
        equal("the seventh umbrella", Schools.run(school, "add 3;add 3;add 3;add 3;add 3;add 3;add 3"), BAD_STATE);
        equal("its index", school.failedCommand(), 6);
        equal("no umbrella", school.umbrellaCount(), 0);
    }

    @Sentence(promise = 50, value = "Returns the index of the command that failed in the latest script with a failed command.")
    void theLatestFailedCommand() {
        UmbrellaSchool school = new UmbrellaSchool();
        Schools.run(school, "wet 3;wet 4;term");
        equal("the first one", school.failedCommand(), 2);
        Schools.run(school, "term");
        equal("the next one", school.failedCommand(), 0);
        Schools.run(school, "wet 3;add 2");
        equal("a greater one", school.failedCommand(), 1);
        Schools.run(school, "wet 3;wet 4;wet 5");
        equal("after a right script", school.failedCommand(), 1);
        Schools.run(school, "wet 3;wet 4;x");
        equal("after a wrong form", school.failedCommand(), 1);
        raises("a failed call", BAD_ARGUMENT, () -> school.addUmbrella(2));
        equal("after a failed call", school.failedCommand(), 1);
    }
}
