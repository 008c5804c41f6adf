import java.lang.reflect.InvocationTargetException;
import java.lang.reflect.Method;
import java.util.Arrays;
import java.util.Comparator;

/** Runs all tests of a class, one for each sentence, so that none of them can be left out. */
final class Sentences {
    private static final String[] PROMISES = {"A new object", "submit", "begin", "run", "deliver", "betray", "speak", "epoch",
        "ledger", "queue", "waiting", "instance", "coin", "root"};

    private Sentences() {
    }

    static void test(Class<?> tests) throws IllegalAccessException {
        Due due = new Due();
        int count = 0;
        Method[] methods = tests.getDeclaredMethods();
        Arrays.sort(methods, Comparator.comparing(Method::getName));
        for (Method method : methods) {
            Sentence sentence = method.getAnnotation(Sentence.class);
            if (sentence != null) {
                due.under("Promise " + sentence.promise() + ": " + PROMISES[sentence.promise() - 1] + ", " + method.getName()
                    + " (" + sentence.says() + ")");
                call(method, due);
                count++;
            }
        }
        due.under(tests.getName());
        due.yes("there is a test", count > 0);
        System.out.println(tests.getName() + ": " + count + " sentences");
        due.end();
    }

    private static void call(Method method, Due due) throws IllegalAccessException {
        try {
            method.setAccessible(true);
            method.invoke(null, due);
        } catch (InvocationTargetException thrown) {
            due.fault("threw " + thrown.getCause() + " at " + thrown.getCause().getStackTrace()[0]);
        }
    }
}
