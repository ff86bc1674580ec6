import java.lang.reflect.Constructor;
import java.lang.reflect.Field;
import java.lang.reflect.Method;
import java.lang.reflect.Modifier;
import java.util.Arrays;
import java.util.Set;
import java.util.TreeSet;

/** The class has the document's face, with its exceptions, and no other member that is not private. */
public final class FaceTest {
    private static final String[] FACE = {
        "int addUmbrella(int) IllegalArgumentException IllegalStateException",
        "int train(int,int,int,int) IndexOutOfBoundsException IllegalArgumentException",
        "int setPeriod(int,int) IndexOutOfBoundsException IllegalArgumentException",
        "int setWetPenalty(int) IllegalArgumentException",
        "int setGalePenalty(int) IllegalArgumentException",
        "int forgetRain(int,int) IndexOutOfBoundsException IllegalArgumentException",
        "int examine(int,int) IndexOutOfBoundsException IllegalArgumentException",
        "int endTerm() IllegalStateException",
        "int umbrellaCount()",
        "int memory(int) IndexOutOfBoundsException",
        "int period(int) IndexOutOfBoundsException",
        "int trials(int) IndexOutOfBoundsException",
        "int rememberedTrials(int) IndexOutOfBoundsException",
        "int trialRain(int,int) IndexOutOfBoundsException NoSuchElementException",
        "boolean trialOpened(int,int) IndexOutOfBoundsException NoSuchElementException",
        "int trialReward(int,int) IndexOutOfBoundsException NoSuchElementException",
        "int reward(int,int,boolean) IllegalArgumentException",
        "boolean shouldOpen(int,int) IllegalArgumentException",
        "boolean wouldOpen(int,int,int) IndexOutOfBoundsException IllegalArgumentException",
        "boolean exploresNext(int) IndexOutOfBoundsException",
        "int timesTried(int,int,int,boolean) IndexOutOfBoundsException IllegalArgumentException",
        "int rewardSum(int,int,int,boolean) IndexOutOfBoundsException IllegalArgumentException",
        "int rewardSumByTrials(int,int,int,boolean) IndexOutOfBoundsException IllegalArgumentException",
        "double meanReward(int,int,int,boolean) IndexOutOfBoundsException IllegalArgumentException"
            + " NoSuchElementException",
        "int rightHabits(int) IndexOutOfBoundsException",
        "int knownSituations(int) IndexOutOfBoundsException",
        "int situationRain(int,int) IndexOutOfBoundsException NoSuchElementException",
        "int situationWind(int,int) IndexOutOfBoundsException NoSuchElementException",
        "boolean hasExam(int,int) IndexOutOfBoundsException IllegalArgumentException",
        "boolean isGraduate(int) IndexOutOfBoundsException",
        "int totalReward(int) IndexOutOfBoundsException",
        "int termReward(int) IndexOutOfBoundsException",
        "int stars(int) IndexOutOfBoundsException",
        "int umbrellaByStars(int) NoSuchElementException",
        "int wetPenalty()",
        "int galePenalty()",
        "int term()",
        "int schoolReward()",
        "int schoolRewardByActions()",
        "double meanSchoolReward() ArithmeticException",
        "float openShare() ArithmeticException",
        "boolean isConsistent()",
        "int renderHabits(int) IndexOutOfBoundsException",
        "int renderUmbrella(int) IndexOutOfBoundsException",
        "char outputAt(int) IndexOutOfBoundsException",
        "int type(char) IllegalArgumentException IllegalStateException",
        "int runScript() IllegalArgumentException IllegalStateException",
        "int errorPosition() NoSuchElementException",
        "int failedCommand() NoSuchElementException",
        "int undo() IllegalStateException",
        "int save()",
        "int restore() IllegalStateException",
    };

    public static void main(String[] args) {
        Checks checks = new Checks();
        Class<?> face = UmbrellaSchool.class;
        checks.equal("the class's modifiers", Modifier.toString(face.getModifiers()), "public final");
        Constructor<?>[] constructors = face.getDeclaredConstructors();
        checks.equal("the number of constructors", constructors.length, 1);
        checks.equal("the constructor", constructors[0].toString(), "public UmbrellaSchool()");
        Set<String> methods = new TreeSet<>();
        Set<String> publicNames = new TreeSet<>();
        for (Method method : face.getDeclaredMethods()) {
            if (!Modifier.isPrivate(method.getModifiers())) {
                methods.add(textOf(method));
                publicNames.add(method.getName());
            }
        }
        checks.equal("the methods", methods, new TreeSet<>(Arrays.asList(FACE)));
        checkPrivateNames(checks, face, publicNames);
        for (Class<?> inside : face.getDeclaredClasses()) {
            checkPrivateNames(checks, inside, publicNames);
            checks.equal(inside + " is static and not public",
                    Modifier.isStatic(inside.getModifiers()) && !Modifier.isPublic(inside.getModifiers()), true);
        }
        for (Field field : face.getDeclaredFields()) {
            checks.equal("private: " + field, Modifier.isPrivate(field.getModifiers()), true);
        }
        checks.finish("FaceTest");
    }

    private static void checkPrivateNames(Checks checks, Class<?> where, Set<String> publicNames) {
        for (Method method : where.getDeclaredMethods()) {
            boolean isFace = where == UmbrellaSchool.class && Modifier.isPublic(method.getModifiers());
            if (!isFace) {
                checks.equal(method + " bears a name of the face", publicNames.contains(method.getName()), false);
            }
        }
    }

    private static String textOf(Method method) {
        StringBuilder text = new StringBuilder();
        if (!Modifier.toString(method.getModifiers()).equals("public")) {
            text.append(Modifier.toString(method.getModifiers())).append(' ');
        }
        text.append(method.getReturnType().getName()).append(' ').append(method.getName()).append('(');
        for (int i = 0; i < method.getParameterCount(); i++) {
            text.append(i == 0 ? "" : ",").append(method.getParameterTypes()[i].getName());
        }
        text.append(')');
        for (Class<?> thrown : method.getExceptionTypes()) {
            text.append(' ').append(thrown.getSimpleName());
        }
        return text.toString();
    }
}
