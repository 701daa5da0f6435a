import java.lang.reflect.InvocationTargetException;
import java.lang.reflect.Method;
import java.util.Arrays;
import java.util.Comparator;

/**
 * Runs the cases of classes: each method named p, the promise's number in two digits (00 for what
 * no promise tells alone), '_', the call, '_' and the case.
 */
final class Cases {
    private static final int PROMISES = 25;
    private static final String NAME = "p\\d\\d_\\w+_\\w+";

    private final Due due = new Due();
    private final int[] byPromise = new int[PROMISES + 1];

    void run(Class<?> of) throws IllegalAccessException {
        Method[] methods = of.getDeclaredMethods();
        Arrays.sort(methods, Comparator.comparing(Method::getName));
        for (Method method : methods) {
            if (method.getName().matches(NAME)) {
                run(method);
            }
        }
    }

    private void run(Method method) throws IllegalAccessException {
        String name = method.getName();
        int before = due.asked();
        due.promise(name);
        byPromise[Integer.parseInt(name.substring(1, 3))]++;
        try {
            method.invoke(null, due);
        } catch (InvocationTargetException e) {
            due.holds("it ends without " + e.getCause(), false);
        }
        due.holds("something is looked at", due.asked() > before);
    }

    void end(String test) {
        due.promise(test);
        for (int promise = 1; promise <= PROMISES; promise++) {
            due.holds("promise " + promise + " has a case", byPromise[promise] > 0);
        }
        System.out.println(test + ": " + Arrays.stream(byPromise).sum() + " cases");
        due.end(test);
    }
}
