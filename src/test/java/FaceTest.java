import java.io.IOException;
import java.lang.reflect.Constructor;
import java.lang.reflect.Field;
import java.lang.reflect.Method;
import java.lang.reflect.Modifier;
import java.nio.charset.StandardCharsets;
import java.nio.file.Files;
import java.nio.file.Path;
import java.util.ArrayList;
import java.util.HashSet;
import java.util.List;
import java.util.Map;
import java.util.Set;
import java.util.TreeMap;
import java.util.TreeSet;
import java.util.regex.Pattern;

/** The public face is the one that the document writes down, and nothing else. */
public final class FaceTest {
    private static final Pattern OPEN_CALL = Pattern.compile("(?m)^ {4}public (\\w+ \\w+\\(.*\\)) \\{$");

    private static final Due due = new Due();
    private static final Document document = new Document();

    public static void main(String[] args) throws IOException, ReflectiveOperationException {
        due.promise("face");
        due.holds("the class is public and final",
                ShameYards.class.getModifiers() == (Modifier.PUBLIC | Modifier.FINAL));
        due.holds("it stands in no package", ShameYards.class.getPackageName().isEmpty());
        due.holds("it is nothing else's kind", ShameYards.class.getSuperclass() == Object.class
                && ShameYards.class.getInterfaces().length == 0);
        constants();
        methods();
        methodsAsWritten();
        constructors();
        classesInside();
        promises();
        due.end("FaceTest");
    }

    private static void constants() throws ReflectiveOperationException {
        Map<String, Integer> open = new TreeMap<>();
        for (Field field : ShameYards.class.getDeclaredFields()) {
            if (!Modifier.isPrivate(field.getModifiers())) {
                boolean constant = field.getType() == int.class
                        && field.getModifiers() == (Modifier.PUBLIC | Modifier.STATIC | Modifier.FINAL);
                due.holds(field.getName() + " is an int constant", constant);
                open.put(field.getName(), constant ? field.getInt(null) : 0);
            }
        }
        due.is("constants in the document", document.constants().size(), 5);
        due.holds("the constants are the document's: " + open, open.equals(document.constants()));
    }

    private static void methods() {
        Set<String> open = new TreeSet<>();
        Set<String> openNames = new HashSet<>();
        Set<String> hiddenNames = new HashSet<>();
        for (Method method : ShameYards.class.getDeclaredMethods()) {
            if (Modifier.isPrivate(method.getModifiers())) {
                hiddenNames.add(method.getName());
                continue;
            }
            due.holds(method.getName() + " is public and no more", method.getModifiers() == Modifier.PUBLIC);
            due.holds(method.getName() + " declares no exception", method.getExceptionTypes().length == 0);
            open.add(signature(method));
            openNames.add(method.getName());
        }
        Set<String> wanted = new TreeSet<>();
        document.calls().forEach(call -> wanted.add(call.replaceAll(" \\w+(?=[,)])", "").replace(", ", ",")));
        due.is("calls in the document", wanted.size(), 24);
        due.holds("the methods are the document's: " + open, open.equals(wanted));
        hiddenNames.retainAll(openNames);
        due.holds("no private method bears a public name: " + hiddenNames, hiddenNames.isEmpty());
    }

    private static String signature(Method method) {
        StringBuilder text = new StringBuilder(method.getReturnType() + " " + method.getName() + "(");
        for (Class<?> type : method.getParameterTypes()) {
            text.append(text.charAt(text.length() - 1) == '(' ? "" : ",").append(type);
        }
        return text.append(')').toString();
    }

    /** The names of the parameters and the order of the calls are the document's, too. */
    private static void methodsAsWritten() throws IOException {
        String source = Files.readString(Path.of("src/main/java/ShameYards.java"), StandardCharsets.UTF_8);
        List<String> written = OPEN_CALL.matcher(source).results().map(row -> row.group(1)).toList();
        due.holds("the calls are written as in the document: " + written, written.equals(document.calls()));
    }

    private static void constructors() {
        Constructor<?>[] made = ShameYards.class.getDeclaredConstructors();
        due.is("constructors", made.length, 1);
        due.holds("it is public and takes nothing",
                Modifier.isPublic(made[0].getModifiers()) && made[0].getParameterCount() == 0);
    }

    private static void classesInside() {
        for (Class<?> one : ShameYards.class.getDeclaredClasses()) {
            int is = one.getModifiers();
            due.holds(one + " is static and not open",
                    Modifier.isStatic(is) && !Modifier.isPublic(is) && !Modifier.isProtected(is));
        }
    }

    /** The document is not at odds with itself: what is promised is the face. */
    private static void promises() {
        List<String> promised = new ArrayList<>(document.promisedCalls());
        due.is("promises", promised.size(), 25);
        due.holds("the first is the constructor", !promised.isEmpty() && promised.remove(0).equals("ShameYards()"));
        due.holds("the others are the calls of the face: " + promised, promised.equals(document.calls()));
    }
}
