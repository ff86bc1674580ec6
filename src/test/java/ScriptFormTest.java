/** Every beginning of some scripts, with every character behind it: the form and the error position. */
public final class ScriptFormTest {
    private static final String[] SCRIPTS = {
        "add 12;term", "train 0 12x3;add 7", "train 4 31;wet 5", "period 0 9;gale 0", "wet 8;exam 1 2",
        "gale 1;forget 3 2", "forget 0 1;train 0 00", "exam 5 3;period 1 1", "term;train 0 00x0"
    };

    private static final Checks CHECKS = new Checks();

    public static void main(String[] args) {
        for (String script : SCRIPTS) {
            for (int length = 0; length <= script.length(); length++) {
                String beginning = script.substring(0, length);
                check(beginning);
                for (char sign = 32; sign <= 126; sign++) {
                    check(beginning + sign);
                    check(beginning + sign + script.substring(length));
                }
            }
        }
        CHECKS.finish("ScriptFormTest");
    }

    private static void check(String script) {
        UmbrellaSchool school = new UmbrellaSchool();
        Model model = new Model();
        for (char sign : script.toCharArray()) {
            school.type(sign);
            model.type(sign);
        }
        CHECKS.equal("runScript of '" + script + "'",
                Checks.answerOf(() -> school.runScript()), Checks.answerOf(() -> model.runScript()));
        CHECKS.equal("errorPosition after '" + script + "'",
                Checks.answerOf(() -> school.errorPosition()), Checks.answerOf(() -> model.errorPosition()));
        CHECKS.equal("failedCommand after '" + script + "'",
                Checks.answerOf(() -> school.failedCommand()), Checks.answerOf(() -> model.failedCommand()));
    }
}
