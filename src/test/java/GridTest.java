import java.lang.reflect.InvocationTargetException;
import java.lang.reflect.Method;
import java.lang.reflect.Modifier;
import java.util.ArrayList;
import java.util.Arrays;
import java.util.Comparator;
import java.util.List;

/**
 * Every call with every combination of numbers at the edges, in several states: it ends, throws
 * nothing and answers as the slow oracle does. Objects are made anew before they are used up.
 */
public final class GridTest {
    private static final int CALLS = 512;
    private static final int[] NUMBERS = {Integer.MIN_VALUE, -2, -1, 0, 1, 2, 4, 5, 7, 10, 14, 15, Integer.MAX_VALUE};
    private static final int[] CODES = {31, 32, 48, 59, 126, 127};
    private static final int[] BOUNDS = {3, 6, 9, 11, 12, 13, 60, 61, 120, 121, 9000};
    private static final List<String> TEXTS = List.of("", "2;011;c00", "3;012;w35,l90",
            "4;014,125,023,239;c12,b30,l99", "5;011,122,233,344,405,136,249;l99,m99,w99,b99,c99");

    private static final Due due = new Due();

    private final String text;
    private ShameYards yards;
    private Oracle oracle;
    private int calls = CALLS;

    private GridTest(String text) {
        this.text = text;
    }

    public static void main(String[] args) throws ReflectiveOperationException {
        Method[] methods = ShameYards.class.getDeclaredMethods();
        Arrays.sort(methods, Comparator.comparing(Method::getName));
        for (String text : TEXTS) {
            due.promise("ministry " + text);
            for (Method method : methods) {
                if (Modifier.isPublic(method.getModifiers())) {
                    new GridTest(text).all(method);
                }
            }
        }
        due.end("GridTest");
    }

    private void all(Method method) throws ReflectiveOperationException {
        Method known = Oracle.class.getDeclaredMethod(method.getName(), method.getParameterTypes());
        for (Object[] row : rows(method.getParameterCount())) {
            if (calls > CALLS - 2) {
                renew();
            }
            compare(method, known, row);
        }
    }

    private static List<Object[]> rows(int width) {
        List<Object[]> rows = new ArrayList<>();
        rows.add(new Object[0]);
        for (int column = 0; column < width; column++) {
            List<Object[]> longer = new ArrayList<>();
            for (Object[] row : rows) {
                for (int number : numbers(width)) {
                    Object[] next = Arrays.copyOf(row, column + 1);
                    next[column] = number;
                    longer.add(next);
                }
            }
            rows = longer;
        }
        return rows;
    }

    /** The more numbers stand together, the fewer are put for each, so that the rows do not become too many. */
    private static int[] numbers(int width) {
        switch (width) {
            case 1: return joined(joined(NUMBERS, CODES), BOUNDS);
            case 2: return joined(NUMBERS, BOUNDS);
            case 3: return joined(NUMBERS, new int[] {3, 60, 61});
            default: return new int[] {Integer.MIN_VALUE, -1, 0, 1, 2, 3, 4, 5, 10, 13, 120, 121};
        }
    }

    private static int[] joined(int[] a, int[] b) {
        int[] both = Arrays.copyOf(a, a.length + b.length);
        System.arraycopy(b, 0, both, a.length, b.length);
        return both;
    }

    /** A new object and oracle with some history, if there is a ministry at all. */
    private void renew() {
        yards = new ShameYards();
        oracle = new Oracle();
        calls = 0;
        for (char sign : text.toCharArray()) {
            same("letter", yards.letter(sign), oracle.letter(sign));
        }
        same("ministry", yards.ministry(), oracle.ministry());
        same("go", yards.go(0, 0, -1), oracle.go(0, 0, -1));
        same("see", yards.see(0, 0, -1, 4), oracle.see(0, 0, -1, 4));
        same("image", yards.image(), oracle.image());
        same("go", yards.go(1, 0, 2), oracle.go(1, 0, 2));
        same("letter", yards.letter('2'), oracle.letter('2'));
    }

    private void same(String call, long got, long want) {
        calls++;
        due.is(call, got, want);
    }

    private void compare(Method method, Method known, Object[] row) throws IllegalAccessException {
        String call = method.getName() + Arrays.toString(row);
        try {
            Number got = (Number) method.invoke(yards, row);
            Number want = (Number) known.invoke(oracle, row);
            same(call, got.longValue(), want.longValue());
        } catch (InvocationTargetException e) {
            due.holds(call + " ends without " + e.getCause(), false);
        }
    }
}
