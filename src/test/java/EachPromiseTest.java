import java.lang.reflect.Method;

/** Each promise of the document has tests of its bounds, which bear its number. */
public final class EachPromiseTest {
    private static final int PROMISES = 27;
    private static final Class<?>[] TESTS = {
        BoundsOfKnownTest.class, BoundsOfLineTest.class, BoundsOfHelpTest.class, BoundsOfLearningTest.class};

    public static void main(String[] args) {
        Check check = new Check();
        for (int number = 1; number <= PROMISES; number++) {
            String prefix = String.format("promise%02d", number);
            check.due("tests of " + prefix, 1, countTests(prefix) > 0 ? 1 : 0);
        }
        check.end("EachPromiseTest");
    }

    private static int countTests(String prefix) {
        int found = 0;
        for (Class<?> tests : TESTS) {
            for (Method method : tests.getDeclaredMethods()) {
                if (method.getName().startsWith(prefix)) {
                    found++;
                }
            }
        }
        return found;
    }
}
