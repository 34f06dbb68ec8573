import java.lang.reflect.Constructor;
import java.lang.reflect.Field;
import java.lang.reflect.Member;
import java.lang.reflect.Method;
import java.lang.reflect.Modifier;
import java.util.ArrayList;
import java.util.Arrays;
import java.util.List;
import java.util.TreeSet;

/** The document's public face, to the letter, and no other member that can be seen. */
public final class FaceTest {
    private static final String INDEX = "java.lang.IndexOutOfBoundsException";
    private static final String ARGUMENT = "java.lang.IllegalArgumentException";
    private static final String STATE = "java.lang.IllegalStateException";

    private static final List<String> FACE = List.of(
            method("int chief(int)", ARGUMENT, STATE),
            method("int feed(int,int,int,int,int)"),
            method("int custom(int,int)", ARGUMENT, STATE),
            method("int fault()"),
            method("int force(int)"),
            method("int give(int,int,int)", INDEX, ARGUMENT, STATE),
            method("int lend(int,int,int)", INDEX, ARGUMENT, STATE),
            method("int copper(int,int)", INDEX, ARGUMENT, STATE),
            method("int pass(int,int)", INDEX, ARGUMENT, STATE),
            method("int breaks(int)", INDEX),
            method("int copperTold(int,int)", INDEX, ARGUMENT),
            method("int feast(int,int,int,int)", INDEX, ARGUMENT, STATE),
            method("int died(int,int)", INDEX, ARGUMENT, STATE),
            method("int wait(int)", ARGUMENT),
            method("int debt(int,int)", INDEX, ARGUMENT),
            method("int late(int)"),
            method("int about(int,int)", INDEX, ARGUMENT),
            method("long fame(int)", INDEX),
            method("long gather(int,int)", INDEX),
            method("int hold(int,int)", INDEX),
            method("int count(int)"));

    private static String method(String head, String... thrown) {
        return thrown.length == 0 ? head : head + " throws " + String.join(",", thrown);
    }

    public static void main(String[] args) {
        Check check = new Check();
        check.sentence("The public face");
        Class<FeastLedger> face = FeastLedger.class;
        check.same("public and final", Modifier.PUBLIC | Modifier.FINAL, face.getModifiers());
        check.same("NONE", -1, FeastLedger.NONE);
        equal(check, "methods", new TreeSet<>(FACE), new TreeSet<>(methods(face)));
        equal(check, "constants", List.of("public static final int FeastLedger.NONE"), fields(face));
        equal(check, "constructors", List.of("public FeastLedger()"), constructors(face));
        for (Class<?> inside : face.getDeclaredClasses()) {
            int modifiers = inside.getModifiers();
            if (!Modifier.isStatic(modifiers) || Modifier.isPublic(modifiers)) {
                check.say(inside + " is seen or not static");
            }
        }
        check.end();
    }

    private static void equal(Check check, String what, Object due, Object got) {
        if (!due.equals(got)) {
            check.say(what + ": " + got + ", due is " + due);
        }
    }

    private static boolean seen(Member member) {
        return !Modifier.isPrivate(member.getModifiers()) && !member.isSynthetic();
    }

    private static List<String> methods(Class<?> of) {
        List<String> told = new ArrayList<>();
        for (Method method : of.getDeclaredMethods()) {
            if (seen(method)) {
                String head = method.getReturnType() + " " + method.getName() + "("
                        + names(method.getParameterTypes()) + ")";
                String thrown = names(method.getExceptionTypes());
                told.add(thrown.isEmpty() ? head : head + " throws " + thrown);
            }
        }
        return told;
    }

    private static String names(Class<?>[] classes) {
        return String.join(",", Arrays.stream(classes).map(Class::getName).toList());
    }

    private static List<String> fields(Class<?> of) {
        List<String> told = new ArrayList<>();
        for (Field field : of.getDeclaredFields()) {
            if (seen(field)) {
                told.add(field.toString());
            }
        }
        return told;
    }

    private static List<String> constructors(Class<?> of) {
        List<String> told = new ArrayList<>();
        for (Constructor<?> made : of.getDeclaredConstructors()) {
            if (seen(made)) {
                told.add(made.toString());
            }
        }
        return told;
    }
}
