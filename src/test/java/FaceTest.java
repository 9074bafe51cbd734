import java.io.IOException;
import java.lang.reflect.Constructor;
import java.lang.reflect.Field;
import java.lang.reflect.Method;
import java.lang.reflect.Modifier;
import java.nio.file.Files;
import java.nio.file.Path;
import java.util.ArrayList;
import java.util.Arrays;
import java.util.Collections;
import java.util.HashSet;
import java.util.List;
import java.util.Set;
import java.util.regex.Matcher;
import java.util.regex.Pattern;

/** The class shows the document's face and no more, and its source has nothing that LANGUAGE.md rules out by a word. */
public final class FaceTest {
    private static final String SOURCE = "src/main/java/HistogramStairs.java";

    private static final String[] METHODS = {
        "back/1", "clear/0", "column/2", "container/1", "dam/2", "drained/1", "freeze/0", "insert/2", "keep/1",
        "parting/1", "pool/2", "raise/3", "range/3", "ranges/1", "rectangle/2", "remove/1", "reverse/2", "set/2",
        "sort/3", "stair/2", "sumOfMinima/0", "told/1", "undo/0"};

    private static final String[] FORBIDDEN_WORDS = {
        "throw", "throws", "try", "catch", "finally", "synchronized", "assert", "package", "protected", "volatile",
        "native", "Object", "Override", "Random", "Thread", "Exception", "System.out", "System.nanoTime"};

    /** Of the library that LANGUAGE.md leaves, what the class uses; another call that it allows may be added here. */
    private static final Set<String> LIBRARY = Set.of("Arrays.fill", "Math.max", "Math.min", "System.arraycopy");

    private static final int MOST_PARAMETERS = 7;
    private static final int MOST_FIELDS = 20;
    private static final int MOST_LINES = 60;

    public static void main(String[] args) throws IOException {
        Check check = new Check("FaceTest");
        checkClass(check);
        checkMethods(check);
        checkConstants(check);
        checkInnerClasses(check);
        checkSizes(check);
        checkSource(check);
        check.end();
    }

    private static void checkClass(Check check) {
        Class<?> face = HistogramStairs.class;
        check.yes("public", Modifier.isPublic(face.getModifiers()));
        check.yes("final", Modifier.isFinal(face.getModifiers()));
        check.yes("no package", face.getPackageName().isEmpty());
        Constructor<?>[] constructors = face.getDeclaredConstructors();
        check.due("constructors", constructors.length, 1);
        check.yes("public constructor", Modifier.isPublic(constructors[0].getModifiers()));
        check.due("constructor's parameters", constructors[0].getParameterCount(), 0);
    }

    private static void checkMethods(Check check) {
        List<String> open = new ArrayList<>();
        Set<String> publicNames = new HashSet<>();
        for (Method method : HistogramStairs.class.getDeclaredMethods()) {
            if (!Modifier.isPrivate(method.getModifiers())) {
                open.add(method.getName() + "/" + method.getParameterCount());
                publicNames.add(method.getName());
                check.yes(method + " is public", Modifier.isPublic(method.getModifiers()));
                check.yes(method + " is not static", !Modifier.isStatic(method.getModifiers()));
                check.yes(method + " answers an int", method.getReturnType() == int.class);
                for (Class<?> type : method.getParameterTypes()) {
                    check.yes(method + " takes ints", type == int.class);
                }
            }
        }
        Collections.sort(open);
        check.yes("methods " + open, open.equals(Arrays.asList(METHODS)));
        for (Method method : HistogramStairs.class.getDeclaredMethods()) {
            check.yes(method + " bears no public one's name",
                    !Modifier.isPrivate(method.getModifiers()) || !publicNames.contains(method.getName()));
        }
        for (Class<?> inner : HistogramStairs.class.getDeclaredClasses()) {
            for (Method method : inner.getDeclaredMethods()) {
                check.yes(method + " bears no public one's name", !publicNames.contains(method.getName()));
            }
        }
    }

    private static void checkConstants(Check check) {
        List<String> open = new ArrayList<>();
        for (Field field : HistogramStairs.class.getDeclaredFields()) {
            if (Modifier.isStatic(field.getModifiers())) {
                check.yes(field + " is final", Modifier.isFinal(field.getModifiers()));
            }
            if (!Modifier.isPrivate(field.getModifiers())) {
                open.add(field.getName());
                check.yes(field + " is a public constant",
                        Modifier.isPublic(field.getModifiers()) && Modifier.isStatic(field.getModifiers()));
            }
        }
        Collections.sort(open);
        check.yes("constants " + open, open.equals(Arrays.asList("BAD", "FULL", "NONE", "STATE")));
        check.due("BAD", HistogramStairs.BAD, -1);
        check.due("STATE", HistogramStairs.STATE, -2);
        check.due("FULL", HistogramStairs.FULL, -3);
        check.due("NONE", HistogramStairs.NONE, -9);
    }

    private static void checkInnerClasses(Check check) {
        for (Class<?> inner : HistogramStairs.class.getDeclaredClasses()) {
            check.yes(inner + " is static", Modifier.isStatic(inner.getModifiers()));
            check.yes(inner + " is not public", !Modifier.isPublic(inner.getModifiers()));
            check.yes(inner + " is not protected", !Modifier.isProtected(inner.getModifiers()));
        }
        check.yes("at most twelve classes", HistogramStairs.class.getDeclaredClasses().length < 12);
    }

    private static void checkSizes(Check check) {
        List<Class<?>> classes = new ArrayList<>(Arrays.asList(HistogramStairs.class.getDeclaredClasses()));
        classes.add(HistogramStairs.class);
        for (Class<?> one : classes) {
            int fields = 0;
            for (Field field : one.getDeclaredFields()) {
                if (Modifier.isStatic(field.getModifiers())) {
                    check.yes(field + " is a constant number",
                            Modifier.isFinal(field.getModifiers()) && field.getType() == int.class);
                } else {
                    fields++;
                }
            }
            check.yes(one + " has few fields", fields <= MOST_FIELDS);
            for (Method method : one.getDeclaredMethods()) {
                check.yes(method + " takes few parameters", method.getParameterCount() <= MOST_PARAMETERS);
            }
        }
    }

    private static void checkSource(Check check) throws IOException {
        String source = withoutComments(Files.readString(Path.of(SOURCE)));
        checkLibrary(check, source);
        checkLengths(check, source);
        for (String word : FORBIDDEN_WORDS) {
            String pattern = "(?s).*\\b" + word.replace(".", "\\.") + "\\b.*";
            check.yes("source is without " + word, !source.matches(pattern));
        }
        check.yes("source is without ->", !source.contains("->"));
        check.yes("source is without ::", !source.contains("::"));
        for (String line : source.split("\n")) {
            check.yes(line, !line.startsWith("import") || line.equals("import java.util.Arrays;"));
        }
    }

    private static void checkLibrary(Check check, String source) {
        Matcher call = Pattern.compile("\\b([A-Z][a-z]\\w*\\.\\w+)\\(").matcher(source);
        while (call.find()) {
            check.yes(call.group(1) + " is of the library that is left", LIBRARY.contains(call.group(1)));
        }
    }

    /** A method ends with a brace that stands as far to the right as its first line. */
    private static void checkLengths(Check check, String source) {
        Matcher method = Pattern.compile("(?m)^( {4}| {8})[^ }\n][^\n]*\\) \\{\n(?s:.*?)^\\1\\}$").matcher(source);
        int methods = 0;
        while (method.find()) {
            methods++;
            long lines = method.group().lines().count();
            check.yes("few lines: " + method.group().strip().lines().findFirst().orElse(""), lines <= MOST_LINES);
        }
        check.yes("methods were found", methods > METHODS.length);
    }

    private static String withoutComments(String source) {
        return source.replaceAll("(?s)/\\*.*?\\*/", "").replaceAll("//[^\n]*", "");
    }
}
