import java.io.IOException;
import java.lang.reflect.Constructor;
import java.lang.reflect.Field;
import java.lang.reflect.Method;
import java.lang.reflect.Modifier;
import java.nio.charset.StandardCharsets;
import java.nio.file.Files;
import java.nio.file.Path;
import java.util.ArrayList;
import java.util.Arrays;
import java.util.HashSet;
import java.util.List;
import java.util.Set;
import java.util.TreeSet;
import java.util.regex.Matcher;
import java.util.regex.Pattern;

/** The public face is the document's and nothing else, and the source keeps to LANGUAGE.md. */
public final class FaceTest {
    private static final List<String> FACE = List.of(
            "int letter(int)", "int blank()", "int fault()", "int ministry()",
            "int person(int,int)", "int as(int,int)", "int passage(int,int)", "int steps(int,int,int)",
            "int go(int,int,int)", "int sin(int)", "int lie(int)", "int confess(int)", "int carpet(int,int)",
            "int far(int,int,int,int)", "int send(int)", "int pairs(int,int)", "long meet(int,int,int,int)",
            "int see(int,int,int,int)", "int forget()", "int days(int,int,int)",
            "int image()", "int restore()", "int count(int)", "long digest()");

    private static final Due due = new Due();

    public static void main(String[] args) throws IOException {
        due.promise("face");
        constants();
        methods();
        fields();
        constructors();
        classesInside();
        parameters();
        String text = Files.readString(Path.of("src/main/java/ShameYards.java"), StandardCharsets.UTF_8);
        String code = text.replaceAll("(?s)/\\*.*?\\*/", "").replaceAll("//[^\n]*", "");
        source(code);
        rowsAreMadeWithTheObject(code);
        methodsAreShort(text);
        due.end("FaceTest");
    }

    private static void constants() {
        due.is("NONE", ShameYards.NONE, -1);
        due.is("UNKNOWN", ShameYards.UNKNOWN, -101);
        due.is("OUTSIDE", ShameYards.OUTSIDE, -102);
        due.is("STATE", ShameYards.STATE, -103);
        due.is("FULL", ShameYards.FULL, -104);
        due.holds("the class is public and final",
                ShameYards.class.getModifiers() == (Modifier.PUBLIC | Modifier.FINAL));
    }

    private static void methods() {
        Set<String> open = new TreeSet<>();
        Set<String> openNames = new HashSet<>();
        Set<String> hiddenNames = new HashSet<>();
        for (Method method : ShameYards.class.getDeclaredMethods()) {
            if (Modifier.isPrivate(method.getModifiers())) {
                hiddenNames.add(method.getName());
                continue;
            }
            due.holds(method.getName() + " is public", Modifier.isPublic(method.getModifiers()));
            open.add(signature(method));
            openNames.add(method.getName());
        }
        due.holds("the methods are the document's: " + open, open.equals(new TreeSet<>(FACE)));
        hiddenNames.retainAll(openNames);
        due.holds("no private method bears a public name: " + hiddenNames, hiddenNames.isEmpty());
    }

    private static String signature(Method method) {
        StringBuilder text = new StringBuilder(method.getReturnType() + " " + method.getName() + "(");
        for (Class<?> type : method.getParameterTypes()) {
            text.append(text.charAt(text.length() - 1) == '(' ? "" : ",").append(type);
        }
        return text.append(')').toString();
    }

    private static void fields() {
        Set<String> open = new TreeSet<>();
        for (Field field : ShameYards.class.getDeclaredFields()) {
            if (!Modifier.isPrivate(field.getModifiers())) {
                open.add(field.getName());
                due.holds(field.getName() + " is an int constant", field.getType() == int.class
                        && field.getModifiers() == (Modifier.PUBLIC | Modifier.STATIC | Modifier.FINAL));
            }
        }
        due.holds("the open fields are the constants: " + open,
                open.equals(Set.of("NONE", "UNKNOWN", "OUTSIDE", "STATE", "FULL")));
    }

    private static void constructors() {
        Constructor<?>[] made = ShameYards.class.getDeclaredConstructors();
        due.is("constructors", made.length, 1);
        due.holds("it is public and takes nothing",
                Modifier.isPublic(made[0].getModifiers()) && made[0].getParameterCount() == 0);
    }

    private static void classesInside() {
        Class<?>[] inside = ShameYards.class.getDeclaredClasses();
        due.holds("there are some twelve classes", inside.length + 1 <= 12);
        for (Class<?> one : inside) {
            int is = one.getModifiers();
            due.holds(one + " is static and not open",
                    Modifier.isStatic(is) && !Modifier.isPublic(is) && !Modifier.isProtected(is));
            for (Field field : one.getDeclaredFields()) {
                due.holds(one + "." + field.getName() + " is final, if it is static",
                        !Modifier.isStatic(field.getModifiers()) || Modifier.isFinal(field.getModifiers()));
            }
            due.holds(one + " has some twenty fields", fieldsBesideConstants(one) <= 20);
        }
    }

    private static long fieldsBesideConstants(Class<?> one) {
        return Arrays.stream(one.getDeclaredFields()).filter(f -> !Modifier.isStatic(f.getModifiers())).count();
    }

    private static void parameters() {
        List<Class<?>> all = new ArrayList<>(List.of(ShameYards.class.getDeclaredClasses()));
        all.add(ShameYards.class);
        for (Class<?> one : all) {
            for (Method method : one.getDeclaredMethods()) {
                due.holds(method + " takes at most seven", method.getParameterCount() <= 7);
            }
        }
    }

    /** What a call makes is counted for the whole run, so that no call makes anything. */
    private static void rowsAreMadeWithTheObject(String code) {
        for (String line : code.split("\n")) {
            due.holds("only fields are made: " + line.trim(),
                    !line.matches(".*\\bnew\\b.*") || line.matches("\\s*(private )?final .* = .*;"));
            due.holds("no copy is made: " + line.trim(), !line.matches(".*(copyOf|clone|substring|toCharArray).*"));
        }
    }

    private static void methodsAreShort(String text) {
        Pattern method = Pattern.compile(
                "(?m)^( {4}| {8})(?!if|for|while|switch|\\})\\w[^\n]*\\) \\{\n(?s:(.*?))\n\\1\\}$");
        Matcher matcher = method.matcher(text);
        int found = 0;
        for (int from = 0; matcher.find(from); from = matcher.start() + 1) {
            found++;
            due.holds(matcher.group(2).trim() + " is short", matcher.group(2).split("\n").length <= 60);
        }
        due.holds("methods are found: " + found, found > 80);
    }

    private static void source(String code) {
        List<String> ruledOut = List.of("->", "::", "\\b(throw|try|catch|finally|throws)\\b",
                "\\b(synchronized|assert|volatile|native|transient)\\b", "\\w+Exact\\b", "\\bpackage\\b",
                "System\\.(?!arraycopy)", "Math\\.(?!max|min|abs|floorDiv|floorMod)", "\\bRandom\\b", "\\bThread\\b",
                "import (?!java\\.util\\.(Arrays|ArrayList|List);)", "\\.(equals|hashCode|toString|getClass)\\(",
                "[^\\x00-\\x7f]", "@");
        for (String pattern : ruledOut) {
            due.holds("the source has no " + pattern, !Pattern.compile(pattern).matcher(code).find());
        }
    }
}
