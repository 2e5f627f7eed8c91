import java.io.IOException;
import java.lang.reflect.Constructor;
import java.lang.reflect.Field;
import java.lang.reflect.Member;
import java.lang.reflect.Method;
import java.lang.reflect.Modifier;
import java.nio.charset.StandardCharsets;
import java.nio.file.Files;
import java.nio.file.Path;
import java.util.Arrays;
import java.util.List;
import java.util.Set;
import java.util.TreeSet;
import java.util.regex.Matcher;
import java.util.regex.Pattern;

/** The face of the class, and the rules of LANGUAGE.md that its source can tell. */
public final class LanguageTest {
    private static final List<String> FACE = List.of(
        "int addBook() throws IllegalStateException",
        "int draw(int,int,int,int,int) throws IndexOutOfBoundsException,IllegalArgumentException,IllegalStateException",
        "int erase(int,int) throws IndexOutOfBoundsException",
        "int move(int,int,int) throws IndexOutOfBoundsException,IllegalArgumentException",
        "int frames(int) throws IndexOutOfBoundsException",
        "int frameAt(int,int) throws IndexOutOfBoundsException",
        "int order(int,int) throws IndexOutOfBoundsException,IllegalArgumentException,IllegalStateException",
        "int lacking(int) throws IndexOutOfBoundsException",
        "int waits(int) throws IndexOutOfBoundsException",
        "void setFolds(int,int,int) throws IllegalArgumentException",
        "int cellOf(int) throws IndexOutOfBoundsException",
        "int placeOf(int) throws IndexOutOfBoundsException",
        "int print(int) throws IllegalArgumentException,IllegalStateException",
        "int waiting()",
        "int onSheet(int,int) throws IndexOutOfBoundsException,NoSuchElementException",
        "int cut(int) throws IndexOutOfBoundsException,NoSuchElementException",
        "int discard()",
        "int sharpen(int) throws IndexOutOfBoundsException",
        "int setTolerance(int) throws IllegalArgumentException",
        "int bind(int,int) throws IndexOutOfBoundsException,IllegalStateException",
        "boolean isBound(int,int) throws IndexOutOfBoundsException",
        "int trim(int,int,int) throws IndexOutOfBoundsException",
        "int leaf(int,int,int) throws IndexOutOfBoundsException",
        "int leafByPiles(int,int,int) throws IndexOutOfBoundsException",
        "int spoiled()");
    private static final Set<String> CONSTANTS = new TreeSet<>(List.of(
        "NONE", "EVEN", "SLOW_IN", "SLOW_OUT", "BOTH", "LEFT", "RIGHT", "UP", "DOWN"));
    private static final List<String> FORBIDDEN = List.of(
        "->", "::", "\\bfinally\\b", "\\bsynchronized\\b", "\\bassert\\b", "\\bstatic\\s*\\{", "\\bvar\\b",
        "\\bgetMessage\\b", "\\bSystem\\.(?!arraycopy)", "\\bMath\\.\\w+Exact\\b", "\\bcatch\\b",
        "\\bNullPointerException\\b", "\\bArrayIndexOutOfBoundsException\\b", "\\bClassCastException\\b",
        "\\bNegativeArraySizeException\\b", "\\bArrayStoreException\\b", "\\bThrowable\\b", "[^\\x00-\\x7f]");
    private static final int MOST_METHOD_LINES = 60;
    private static final int MOST_PARAMETERS = 7;
    private static final int MOST_CLASSES = 12;
    private static final int MOST_FIELDS = 20;

    private static int failed = 0;
    private static int passed = 0;

    private static void check(String what, boolean fine) {
        if (fine) {
            passed++;
        } else {
            failed++;
            System.out.println("not so: " + what);
        }
    }

    private static String shape(Method method) {
        StringBuilder text = new StringBuilder();
        text.append(method.getReturnType().getSimpleName()).append(' ').append(method.getName()).append('(');
        text.append(names(method.getParameterTypes())).append(')');
        String thrown = names(method.getExceptionTypes());
        return thrown.isEmpty() ? text.toString() : text + " throws " + thrown;
    }

    private static String names(Class<?>[] types) {
        return String.join(",", Arrays.stream(types).map(Class::getSimpleName).toList());
    }

    private static boolean isPublic(Member member) {
        return Modifier.isPublic(member.getModifiers());
    }

    private static boolean isPrivate(Member member) {
        return Modifier.isPrivate(member.getModifiers());
    }

    private static void checkFace(Class<?> face) {
        check("public and final", face.getModifiers() == (Modifier.PUBLIC | Modifier.FINAL));
        Set<String> methods = new TreeSet<>();
        Set<String> names = new TreeSet<>();
        for (Method method : face.getDeclaredMethods()) {
            check(method + " is public or private", isPublic(method) || isPrivate(method));
            if (isPublic(method)) {
                methods.add(shape(method));
                names.add(method.getName());
            }
        }
        check("the methods of the face: " + methods, methods.equals(new TreeSet<>(FACE)));
        for (Method method : face.getDeclaredMethods()) {
            check(method + " bears a name of its own", isPublic(method) || !names.contains(method.getName()));
        }
        Set<String> constants = new TreeSet<>();
        for (Field field : face.getDeclaredFields()) {
            check(field + " is public or private", isPublic(field) || isPrivate(field));
            if (isPublic(field)) {
                constants.add(field.getName());
            }
        }
        check("the constants of the face: " + constants, constants.equals(CONSTANTS));
        Constructor<?>[] made = face.getDeclaredConstructors();
        check("one constructor", made.length == 1 && isPublic(made[0]) && made[0].getParameterCount() == 0);
    }

    private static void checkSizes(Class<?> type) {
        int fields = 0;
        for (Field field : type.getDeclaredFields()) {
            boolean isStatic = Modifier.isStatic(field.getModifiers());
            fields += isStatic ? 0 : 1;
            check(field + " is final if it is static", !isStatic || Modifier.isFinal(field.getModifiers()));
        }
        check(type + " has few fields", fields <= MOST_FIELDS);
        for (Method method : type.getDeclaredMethods()) {
            check(method + " takes few parameters", method.getParameterCount() <= MOST_PARAMETERS);
        }
        for (Class<?> inside : type.getDeclaredClasses()) {
            check(inside + " is static and not public",
                Modifier.isStatic(inside.getModifiers()) && !Modifier.isPublic(inside.getModifiers()));
            checkSizes(inside);
        }
    }

    private static void checkSource(String source) {
        for (String words : FORBIDDEN) {
            Matcher found = Pattern.compile(words).matcher(source);
            check("no " + words, !found.find());
        }
        for (String line : source.split("\n")) {
            if (line.startsWith("import ")) {
                check(line, line.equals("import java.util.ArrayList;")
                    || line.equals("import java.util.NoSuchElementException;"));
            }
        }
        int start = 0;
        String[] lines = source.split("\n");
        for (int i = 0; i < lines.length; i++) {
            if (lines[i].matches("(    |        )(public|private) .*[({]")) {
                start = i;
            }
            if (lines[i].matches("(    |        )}")) {
                check("short: " + lines[start].trim(), i - start < MOST_METHOD_LINES || lines[start].contains("class"));
            }
        }
    }

    public static void main(String[] args) throws IOException {
        checkFace(Thumbreel.class);
        checkSizes(Thumbreel.class);
        check("few classes", Thumbreel.class.getDeclaredClasses().length < MOST_CLASSES);
        checkSource(Files.readString(Path.of("src/main/java/Thumbreel.java"), StandardCharsets.UTF_8));
        System.out.println(passed + " passed, " + failed + " failed");
        if (failed != 0) {
            System.exit(1);
        }
    }
}
