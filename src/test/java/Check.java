import java.lang.reflect.InvocationTargetException;
import java.lang.reflect.Method;
import java.lang.reflect.Modifier;
import java.util.Arrays;
import java.util.Comparator;

/** What the tests share: a count of wrong answers, and texts fed to a tape. */
final class Check {
    private int wrong = 0;
    private int right = 0;
    private String test = "";

    void due(String call, long want, long got) {
        if (want == got) {
            right++;
            return;
        }
        wrong++;
        if (wrong <= 40) {
            System.out.println(test + call + " answered " + got + ", due is " + want);
        }
    }

    boolean isClean() {
        return wrong == 0;
    }

    void end(String name) {
        System.out.println(name + ": " + right + " answers as due, " + wrong + " not");
        if (wrong != 0) {
            System.exit(1);
        }
    }

    /**
     * Runs the tests of a class, which are its static methods without parameters: each for itself,
     * so that one that throws does not keep the others from running.
     */
    void runTests(Class<?> tests) {
        Method[] methods = tests.getDeclaredMethods();
        Arrays.sort(methods, Comparator.comparing(Method::getName));
        int many = 0;
        for (Method method : methods) {
            if (Modifier.isStatic(method.getModifiers()) && method.getParameterCount() == 0 && !method.isSynthetic()) {
                run(method);
                many++;
            }
        }
        due(tests.getName() + " has tests", 1, many > 0 ? 1 : 0);
        System.out.println(tests.getName() + ": " + many + " tests");
    }

    private void run(Method method) {
        test = method.getName() + ": ";
        try {
            method.invoke(null);
        } catch (InvocationTargetException e) {
            due("throws " + e.getCause() + ", which", 0, 1);
        } catch (IllegalAccessException e) {
            due("cannot be run, which", 0, 1);
        }
        test = "";
    }

    /** Feeds the text eight bytes at a time: the last answer of feed, or the first refusal. */
    static int feed(MisspellHelp x, String text) {
        int answer = 0;
        for (int from = 0; from < text.length(); from += 8) {
            String part = text.substring(from, Math.min(text.length(), from + 8));
            answer = x.feed(part.length(), pack(part));
            if (answer < 0) {
                return answer;
            }
        }
        return answer;
    }

    static long pack(String part) {
        long w = 0;
        for (int i = 0; i < part.length(); i++) {
            w = w << 8 | part.charAt(i) & 255;
        }
        return w;
    }

    static int word(MisspellHelp x, String name, int kind) {
        feed(x, name);
        return x.word(kind);
    }

    static int line(MisspellHelp x, String text) {
        feed(x, text);
        return x.line();
    }

    /** The line as text, by at(). */
    static String text(MisspellHelp x) {
        StringBuilder text = new StringBuilder();
        for (int i = 0; x.at(i) != MisspellHelp.NONE; i++) {
            text.append((char) x.at(i));
        }
        return text.toString();
    }

    /** What cell answers, or Integer.MIN_VALUE where it throws what it may throw. */
    static int cell(MisspellHelp x, int i, int j) {
        try {
            return x.cell(i, j);
        } catch (ArrayIndexOutOfBoundsException e) {
            return Integer.MIN_VALUE;
        }
    }

    /** A name of three letters for a number below 17576, another for each. */
    static String name(int number) {
        char[] letters = {(char) ('a' + number / 676), (char) ('a' + number / 26 % 26), (char) ('a' + number % 26)};
        return new String(letters);
    }
}
