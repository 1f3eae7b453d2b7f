import java.lang.reflect.Constructor;
import java.lang.reflect.Field;
import java.lang.reflect.Member;
import java.lang.reflect.Method;
import java.lang.reflect.Modifier;
import java.util.ArrayList;
import java.util.Arrays;
import java.util.List;
import java.util.Set;
import java.util.TreeSet;
import java.util.stream.Collectors;

/** The public face of the document, and what LANGUAGE.md says of the members of classes. */
public final class FaceTest {
    private static final int CLASSES_MOST = 12, FIELDS_MOST = 20, PARAMETERS_MOST = 7;
    /** As the document has it, but for the names of the parameters. */
    private static final String[] METHODS = {
        "feed(int, long)", "word(int)", "scope(int, boolean)", "classes(int, int)", "danger(int, boolean)",
        "rule(int)", "token(int, int)", "setting(int, int)", "near(int, int)",
        "line()", "at(int)", "typed(int, int)", "look()", "told(int)", "proposal(int, int)", "fix()",
        "choose(int)", "missing(int)", "hint(int)", "verbs(int, int)", "edits(int, int)",
        "cell(int, int) throws java.lang.ArrayIndexOutOfBoundsException",
        "forward()", "pair(int, int)", "learn(int)", "count(int)"};
    private static final Set<String> CONSTANTS = Set.of("NONE", "BAD", "NO", "FULL");

    private static final List<Class<?>> ALL = classesIn(MisspellHelp.class);
    private static final Check check = new Check();

    public static void main(String[] args) {
        check.runTests(FaceTest.class);
        check.end("FaceTest");
    }

    private static void isTrue(String what, boolean is) {
        check.due(what + ", which", 1, is ? 1 : 0);
    }

    private static List<Class<?>> classesIn(Class<?> outer) {
        List<Class<?>> all = new ArrayList<>();
        all.add(outer);
        for (int i = 0; i < all.size(); i++) {
            all.addAll(Arrays.asList(all.get(i).getDeclaredClasses()));
        }
        return all;
    }

    private static String told(Method method) {
        String types = Arrays.stream(method.getParameterTypes()).map(Class::getName).collect(Collectors.joining(", "));
        String thrown = Arrays.stream(method.getExceptionTypes()).map(Class::getName).collect(Collectors.joining(", "));
        return method.getName() + "(" + types + ")" + (thrown.isEmpty() ? "" : " throws " + thrown);
    }

    // ---- the face

    static void theClassIsPublicAndFinal() {
        int modifiers = MisspellHelp.class.getModifiers();
        isTrue("public and final", Modifier.isPublic(modifiers) && Modifier.isFinal(modifiers));
        isTrue("it is of no other class", MisspellHelp.class.getSuperclass() == Object.class);
        check.due("interfaces", 0, MisspellHelp.class.getInterfaces().length);
        check.due("in no package", 0, MisspellHelp.class.getPackageName().length());
    }

    static void theMethodsAreThoseOfTheDocument() {
        Set<String> found = new TreeSet<>();
        for (Method method : MisspellHelp.class.getDeclaredMethods()) {
            if (!Modifier.isPrivate(method.getModifiers())) {
                int modifiers = method.getModifiers();
                isTrue(told(method) + " is public", Modifier.isPublic(modifiers) && !Modifier.isStatic(modifiers));
                isTrue(told(method) + " answers an int", method.getReturnType() == int.class);
                found.add(told(method));
            }
        }
        Set<String> due = new TreeSet<>(Arrays.asList(METHODS));
        isTrue("the methods are " + found, found.equals(due));
    }

    static void theConstructorIsThatOfTheDocument() {
        Constructor<?>[] all = MisspellHelp.class.getDeclaredConstructors();
        check.due("constructors", 1, all.length);
        isTrue("it is public", Modifier.isPublic(all[0].getModifiers()));
        check.due("its parameters", 0, all[0].getParameterCount());
        check.due("its exceptions", 0, all[0].getExceptionTypes().length);
    }

    static void theConstantsAreThoseOfTheDocument() {
        check.due("NONE", -1, MisspellHelp.NONE);
        check.due("BAD", -2, MisspellHelp.BAD);
        check.due("NO", -3, MisspellHelp.NO);
        check.due("FULL", -4, MisspellHelp.FULL);
        for (Field field : MisspellHelp.class.getDeclaredFields()) {
            boolean constant = CONSTANTS.contains(field.getName());
            int modifiers = field.getModifiers();
            isTrue(field.getName() + " is private", constant || Modifier.isPrivate(modifiers));
            isTrue(field.getName() + " is an int", !constant || field.getType() == int.class);
            isTrue(field.getName() + " is public, static and final", !constant
                || Modifier.isPublic(modifiers) && Modifier.isStatic(modifiers) && Modifier.isFinal(modifiers));
        }
    }

    // ---- the language

    static void rule1NoPrivateMethodIsNamedAsAPublicOne() {
        Set<String> names = new TreeSet<>();
        for (String method : METHODS) {
            names.add(method.substring(0, method.indexOf('(')));
        }
        for (Method method : MisspellHelp.class.getDeclaredMethods()) {
            isTrue(method + " has a name of its own",
                !Modifier.isPrivate(method.getModifiers()) || !names.contains(method.getName()));
        }
    }

    static void rules1And2ClassesInsideAreStaticAndNotPublic() {
        for (Class<?> inside : MisspellHelp.class.getDeclaredClasses()) {
            int modifiers = inside.getModifiers();
            isTrue(inside + " is static", Modifier.isStatic(modifiers));
            isTrue(inside + " is not to be seen", !Modifier.isPublic(modifiers) && !Modifier.isProtected(modifiers));
        }
    }

    static void rule2ThereAreNoLambdas() {
        for (Class<?> one : ALL) {
            for (Method method : one.getDeclaredMethods()) {
                isTrue(method + " was written", !method.isSynthetic());
            }
        }
    }

    static void rule5StaticFieldsAreFinalConstants() {
        Set<Class<?>> may = Set.of(int.class, long.class, boolean.class, char.class, String.class,
            int[].class, long[].class, char[].class, byte[].class);
        for (Class<?> one : ALL) {
            for (Field field : one.getDeclaredFields()) {
                if (Modifier.isStatic(field.getModifiers())) {
                    isTrue(field + " is final", Modifier.isFinal(field.getModifiers()));
                    isTrue(field + " is a constant", may.contains(field.getType()));
                }
            }
        }
    }

    static void rule6NothingIsDeclaredToBeThrownElsewhere() {
        for (Class<?> one : ALL) {
            for (Method method : one.getDeclaredMethods()) {
                int due = method.getName().equals("cell") ? 1 : 0;
                check.due("exceptions of " + method, due, method.getExceptionTypes().length);
            }
        }
    }

    static void rule6NoObjectHasEqualsHashCodeOrToString() {
        Set<String> names = Set.of("equals", "hashCode", "toString");
        for (Class<?> one : ALL) {
            for (Member method : one.getDeclaredMethods()) {
                isTrue(method + " is not one of those", !names.contains(method.getName()));
            }
        }
    }

    static void rule11CountsAreLow() {
        isTrue("classes: " + ALL.size(), ALL.size() <= CLASSES_MOST);
        for (Class<?> one : ALL) {
            long fields = Arrays.stream(one.getDeclaredFields()).filter(f -> !Modifier.isStatic(f.getModifiers())).count();
            isTrue("fields of " + one + ": " + fields, fields <= FIELDS_MOST);
            for (Method method : one.getDeclaredMethods()) {
                isTrue("parameters of " + method, method.getParameterCount() <= PARAMETERS_MOST);
            }
        }
    }
}
