import java.util.Objects;

/** Counts answers that are not as due, and tells them. */
final class Checks {
    interface Call {
        Object run();
    }

    private int made = 0;
    private int wrong = 0;

    void equal(String what, Object got, Object due) {
        made++;
        if (!Objects.equals(got, due)) {
            wrong++;
            System.out.println(what + " answered " + got + ", due is " + due);
        }
    }

    int made() {
        return made;
    }

    /** The class of the exception is compared exactly: one of the machine's own does not pass for its parent. */
    void raises(String what, Class<? extends RuntimeException> due, Call call) {
        equal(what, answerOf(call), due);
    }

    /** The answer of a call, or the class of the exception that it throws. */
    static Object answerOf(Call call) {
        try {
            return call.run();
        } catch (RuntimeException thrown) {
            return thrown.getClass();
        }
    }

    void finish(String name) {
        System.out.println(name + ": " + made + " answers, " + wrong + " not as due");
        if (wrong != 0 || made == 0) {
            System.exit(1);
        }
    }
}
