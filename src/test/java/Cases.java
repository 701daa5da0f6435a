import java.lang.reflect.InvocationTargetException;
import java.lang.reflect.Method;
import java.util.Arrays;
import java.util.Comparator;
import java.util.Map;
import java.util.TreeMap;

/**
 * Runs the cases of classes: each method named p, the promise's number in two digits (00 for what
 * no promise tells alone), '_', the promise's name in the document, '_' and the case.
 */
final class Cases {
    private static final String NAME = "p\\d\\d_[A-Za-z]+_\\w+";

    private final Due due = new Due();
    private final Map<Integer, String> promises = new Document().promises();
    private final Map<Integer, Integer> casesOf = new TreeMap<>();

    void run(Class<?> of) throws IllegalAccessException {
        Method[] methods = of.getDeclaredMethods();
        Arrays.sort(methods, Comparator.comparing(Method::getName));
        for (Method method : methods) {
            if (method.getName().matches(NAME)) {
                run(method);
            } else {
                due.promise(method.getName());
                due.holds("it is a helper and no case", !method.getName().matches("p\\d.*"));
            }
        }
    }

    private void run(Method method) throws IllegalAccessException {
        String name = method.getName();
        int promise = Integer.parseInt(name.substring(1, 3));
        due.promise(name);
        due.holds("it is named after its promise", promise == 0 || name.split("_")[1].equals(promises.get(promise)));
        casesOf.merge(promise, 1, Integer::sum);
        int before = due.asked();
        try {
            method.invoke(null, due);
        } catch (InvocationTargetException e) {
            due.holds("it ends without " + e.getCause(), false);
        }
        due.holds("something is looked at", due.asked() > before);
    }

    void end(String test) {
        due.promise(test);
        due.is("promises", promises.size(), 25);
        for (int promise : promises.keySet()) {
            due.holds("promise " + promise + " has a case", casesOf.containsKey(promise));
        }
        System.out.println(test + ": " + casesOf.values().stream().mapToInt(i -> i).sum() + " cases");
        due.end(test);
    }
}
