import java.lang.reflect.Field;

/**
 * Promise 43: isConsistent answers false if one of its four conditions does not hold. No run of
 * calls leads there, so the faults are put into the private fields.
 */
public final class ConsistencyTest {
    private static final int UMBRELLAS = 6;
    private static final int CASES = 32;
    private static final Checks CHECKS = new Checks();

    public static void main(String[] args) throws ReflectiveOperationException {
        CHECKS.equal("without a fault", school().isConsistent(), true);
        for (int umbrella = 0; umbrella < UMBRELLAS; umbrella++) {
            rewardSums(umbrella);
            rememberedTrials(umbrella);
            stars(umbrella);
        }
        rewardsOfTheSchool();
        CHECKS.finish("ConsistencyTest");
    }

    /** Six umbrellas that all remember trials; the last one has a star. */
    private static UmbrellaSchool school() {
        UmbrellaSchool school = Schools.with(3, 4, 5, 6, 7, 8);
        for (int umbrella = 0; umbrella < UMBRELLAS; umbrella++) {
            school.setPeriod(umbrella, 2);
            school.train(umbrella, 3, umbrella == 5 ? 0 : 3, 4);
        }
        school.endTerm();
        return school;
    }

    private static void rewardSums(int umbrella) throws ReflectiveOperationException {
        for (int number = 0; number < CASES; number++) {
            UmbrellaSchool school = school();
            int[] sums = (int[]) valueOf(pupil(school, umbrella), "caseSums");
            sums[number]++;
            isInconsistent(school, "reward sum " + number + " of umbrella " + umbrella);
        }
        UmbrellaSchool school = school();
        int[] rewards = (int[]) valueOf(pupil(school, umbrella), "trialRewards");
        rewards[0]++;
        isInconsistent(school, "the oldest trial of umbrella " + umbrella);
    }

    private static void rememberedTrials(int umbrella) throws ReflectiveOperationException {
        UmbrellaSchool school = school();
        int remembered = school.rememberedTrials(umbrella);
        add(pupil(school, umbrella), "capacity", remembered - school.memory(umbrella));
        CHECKS.equal("a memory as great as what umbrella " + umbrella + " remembers", school.isConsistent(), true);
        add(pupil(school, umbrella), "capacity", -1);
        isInconsistent(school, "more remembered than the memory of umbrella " + umbrella);
    }

    private static void stars(int umbrella) throws ReflectiveOperationException {
        UmbrellaSchool school = school();
        add(pupil(school, umbrella), "starsWon", 1);
        isInconsistent(school, "a star more of umbrella " + umbrella);
        add(books(school), "termsEnded", 1);
        CHECKS.equal("a term more too", school.isConsistent(), true);
        add(books(school), "termsEnded", 1);
        isInconsistent(school, "a star less than terms");
    }

    private static void rewardsOfTheSchool() throws ReflectiveOperationException {
        for (int fault : new int[] {-1, 1}) {
            for (String account : new String[] {"openReward", "closedReward"}) {
                UmbrellaSchool school = school();
                add(books(school), account, fault);
                isInconsistent(school, account + " and " + fault);
            }
            for (int umbrella = 0; umbrella < UMBRELLAS; umbrella++) {
                UmbrellaSchool school = school();
                add(pupil(school, umbrella), "rewardInAll", fault);
                isInconsistent(school, "total reward of umbrella " + umbrella + " and " + fault);
            }
        }
    }

    private static void isInconsistent(UmbrellaSchool school, String fault) {
        CHECKS.equal("isConsistent with a fault: " + fault, school.isConsistent(), false);
    }

    // ---- the private fields

    private static Object books(UmbrellaSchool school) throws ReflectiveOperationException {
        return valueOf(school, "now");
    }

    private static Object pupil(UmbrellaSchool school, int umbrella) throws ReflectiveOperationException {
        return ((Object[]) valueOf(books(school), "umbrellas"))[umbrella];
    }

    private static Field field(Object owner, String name) throws ReflectiveOperationException {
        Field field = owner.getClass().getDeclaredField(name);
        field.setAccessible(true);
        return field;
    }

    private static Object valueOf(Object owner, String name) throws ReflectiveOperationException {
        return field(owner, name).get(owner);
    }

    private static void add(Object owner, String name, int amount) throws ReflectiveOperationException {
        Field field = field(owner, name);
        field.setInt(owner, field.getInt(owner) + amount);
    }
}
