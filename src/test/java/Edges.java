import java.lang.reflect.InvocationTargetException;
import java.lang.reflect.Method;
import java.util.ArrayList;
import java.util.Comparator;
import java.util.IdentityHashMap;
import java.util.List;
import java.util.Map;
import java.util.NoSuchElementException;

/** What the tests of edges have in common: each method with a Sentence is a test, run on its own. */
abstract class Edges {
    static final Class<IndexOutOfBoundsException> NO_INDEX = IndexOutOfBoundsException.class;
    static final Class<IllegalArgumentException> BAD_ARGUMENT = IllegalArgumentException.class;
    static final Class<IllegalStateException> BAD_STATE = IllegalStateException.class;
    static final Class<NoSuchElementException> NO_ELEMENT = NoSuchElementException.class;
    static final Class<ArithmeticException> NO_TRIAL = ArithmeticException.class;

    // Beside the neighbours and the ends of int stand numbers whose low bytes are right ones.
    static final int[] NO_LEVELS = {Integer.MIN_VALUE, -256, -1, 4, 256, 65536, Integer.MAX_VALUE};
    static final int[] NO_DIGITS = {Integer.MIN_VALUE, -256, -1, 10, 256, 65536, Integer.MAX_VALUE};
    static final int[] NO_TIMES = {Integer.MIN_VALUE, -1, 0, 10, 257, 65537, Integer.MAX_VALUE};
    static final int[] NO_MEMORIES = {Integer.MIN_VALUE, -3, 0, 2, 21, 259, 65539, Integer.MAX_VALUE};

    static final Everything.Maker NEW = UmbrellaSchool::new;
    static final Everything.Maker BUSY = Schools::busy;
    static final Everything.Maker TYPING = Schools::typing;
    static final Everything.Maker FULL = Schools::full;

    interface Asking {
        Object ask(UmbrellaSchool school);
    }

    interface WithNumber {
        Object ask(UmbrellaSchool school, int number);
    }

    interface WithSituation {
        Object ask(UmbrellaSchool school, int rain, int wind);
    }

    private final Checks checks = new Checks();
    private final Map<Everything.Maker, List<String>> known = new IdentityHashMap<>();
    private String where = "";

    final void runAll() {
        List<Method> tests = new ArrayList<>();
        for (Method method : getClass().getDeclaredMethods()) {
            if (method.isAnnotationPresent(Sentence.class)) {
                tests.add(method);
            }
        }
        tests.sort(Comparator.comparingInt((Method test) -> test.getAnnotation(Sentence.class).promise())
                .thenComparing(Method::getName));
        for (Method test : tests) {
            runOne(test);
        }
        checks.finish(getClass().getName() + ", " + tests.size() + " sentences");
    }

    private void runOne(Method test) {
        Sentence sentence = test.getAnnotation(Sentence.class);
        where = test.getName() + " (promise " + sentence.promise() + ": " + sentence.value() + "): ";
        int before = checks.made();
        try {
            test.invoke(this);
        } catch (InvocationTargetException thrown) {
            equal("the test itself threw", thrown.getCause(), null);
        } catch (IllegalAccessException impossible) {
            equal("the test can't be called", impossible, null);
        }
        if (checks.made() == before) {
            equal("the test checks", false, true);
        }
    }

    final void equal(String what, Object got, Object due) {
        checks.equal(where + what, got, due);
    }

    final void raises(String what, Class<? extends RuntimeException> due, Checks.Call call) {
        checks.raises(where + what, due, call);
    }

    private List<String> everythingOf(Everything.Maker maker) {
        return known.computeIfAbsent(maker, Everything::of);
    }

    /** Both makers' schools tell the same, but for the lines with one of the words. */
    final void same(String what, Everything.Maker got, Everything.Maker due, String... besides) {
        List<String> ours = Everything.besides(Everything.of(got), besides);
        List<String> theirs = Everything.besides(everythingOf(due), besides);
        int i = 0;
        while (i < ours.size() && i < theirs.size() && ours.get(i).equals(theirs.get(i))) {
            i++;
        }
        equal(what, i < ours.size() ? ours.get(i) : "the end", i < theirs.size() ? theirs.get(i) : "the end");
    }

    /** The call throws just this exception, and the school tells the same as without the call. */
    final void refuses(String what, Class<? extends RuntimeException> due, Everything.Maker maker, Asking call) {
        raises(what, due, () -> call.ask(maker.make()));
        same("all is as before " + what, () -> {
            UmbrellaSchool school = maker.make();
            Checks.answerOf(() -> call.ask(school));
            return school;
        }, maker);
    }

    /** With 0, 2 and 6 umbrellas, the ones beside them and far from them are refused. */
    final void refusesStrangers(String what, WithNumber call) {
        refuses(what + " of umbrella 0 of none", NO_INDEX, NEW, school -> call.ask(school, 0));
        refuses(what + " of umbrella -1 of none", NO_INDEX, NEW, school -> call.ask(school, -1));
        for (int wrong : new int[] {Integer.MIN_VALUE, -1, 2, 6, 256, 65536, Integer.MAX_VALUE}) {
            refuses(what + " of umbrella " + wrong + " of 2", NO_INDEX, TYPING, school -> call.ask(school, wrong));
        }
        raises(what + " of umbrella -1 of 6", NO_INDEX, () -> call.ask(FULL.make(), -1));
        raises(what + " of umbrella 6 of 6", NO_INDEX, () -> call.ask(FULL.make(), 6));
    }

    final void refusesNumbers(String what, int[] wrongs, WithNumber call) {
        for (int wrong : wrongs) {
            refuses(what + " " + wrong, BAD_ARGUMENT, TYPING, school -> call.ask(school, wrong));
        }
    }

    final void refusesSituations(String what, WithSituation call) {
        refusesNumbers(what + " in rain", NO_LEVELS, (school, wrong) -> call.ask(school, wrong, 0));
        refusesNumbers(what + " in wind", NO_LEVELS, (school, wrong) -> call.ask(school, 3, wrong));
    }

    /** Ranks, recencies and the like: there is nothing at these. */
    final void findsNothing(String what, Everything.Maker maker, int[] wrongs, WithNumber call) {
        for (int wrong : wrongs) {
            refuses(what + " " + wrong, NO_ELEMENT, maker, school -> call.ask(school, wrong));
        }
    }
}
