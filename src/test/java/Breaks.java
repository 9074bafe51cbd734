import java.io.IOException;
import java.io.OutputStream;
import java.io.PrintStream;
import java.lang.reflect.Constructor;
import java.lang.reflect.Method;
import java.net.URL;
import java.net.URLClassLoader;
import java.nio.file.Files;
import java.nio.file.Path;
import java.util.ArrayList;
import java.util.LinkedHashSet;
import java.util.List;
import java.util.Set;
import javax.tools.JavaCompiler;
import javax.tools.ToolProvider;

/**
 * Run by hand, not by .ci/run: breaks the class on purpose, as src/test/breaks.tsv says, and tells each break that the
 * test of the sentence beside it does not see, and each sentence without a break.
 */
public final class Breaks {
    private static final Path SOURCE = Path.of("src/main/java/HistogramStairs.java");
    private static final Path TABLE = Path.of("src/test/breaks.tsv");
    private static final Path TESTS = Path.of("build/own");
    private static final Path OUT = Path.of("build/breaks");
    private static final String[] NAMES = {
        "DescriptionEdgesTest", "ChangesEdgesTest", "HistogramEdgesTest", "WaterAndImagesEdgesTest"};
    private static final int[] LAST_PROMISES = {0, 10, 16, 24};

    public static void main(String[] args) throws Exception {
        Set<String> withoutBreak = new LinkedHashSet<>();
        for (String name : NAMES) {
            withoutBreak.addAll(runTest(name, TESTS).get(0));
        }
        int breaks = 0;
        int unseen = 0;
        for (String line : Files.readAllLines(TABLE)) {
            if (!line.isBlank() && !line.startsWith("#")) {
                breaks++;
                String sentence = sentenceOf(line, withoutBreak);
                if (isSeen(line, breaks)) {
                    withoutBreak.remove(sentence);
                } else {
                    unseen++;
                    System.out.println("not seen: " + line);
                }
            }
        }
        withoutBreak.forEach(sentence -> System.out.println("no break for " + sentence));
        System.out.println(breaks + " breaks, " + unseen + " not seen");
        System.exit(unseen == 0 && withoutBreak.isEmpty() ? 0 : 1);
    }

    /** A line has the promise, the words' beginning, and then, once or more: where, what is there, what is put there. */
    private static boolean isSeen(String line, int number) throws Exception {
        String[] fields = line.replace("\\n", "\n").split("\t", -1);
        String source = Files.readString(SOURCE);
        for (int i = 2; i + 2 < fields.length; i += 3) {
            source = broken(source, fields[i], fields[i + 1], fields[i + 2]);
        }
        Path folder = OUT.resolve(Integer.toString(number));
        compile(source, folder);
        int promise = Integer.parseInt(fields[0]);
        for (String sentence : runTest(testOf(promise), folder).get(1)) {
            if (sentence.startsWith(fields[0] + ": " + fields[1])) {
                return true;
            }
        }
        return false;
    }

    private static String sentenceOf(String line, Set<String> sentences) {
        String[] fields = line.split("\t", -1);
        for (String sentence : sentences) {
            if (sentence.startsWith(fields[0] + ": " + fields[1])) {
                return sentence;
            }
        }
        return "";
    }

    private static String testOf(int promise) {
        int test = 0;
        while (promise > LAST_PROMISES[test]) {
            test++;
        }
        return NAMES[test];
    }

    private static String broken(String source, String where, String old, String put) {
        int from = source.indexOf(where);
        int at = from < 0 ? -1 : source.indexOf(old, from);
        if (at < 0) {
            throw new IllegalArgumentException("the class has no '" + old + "' behind '" + where + "' any more");
        }
        return source.substring(0, at) + put + source.substring(at + old.length());
    }

    private static void compile(String source, Path folder) throws IOException {
        Files.createDirectories(folder);
        Path file = folder.resolve(SOURCE.getFileName());
        Files.writeString(file, source);
        JavaCompiler compiler = ToolProvider.getSystemJavaCompiler();
        if (compiler.run(null, null, null, "-d", folder.toString(), file.toString()) != 0) {
            throw new IllegalArgumentException(file + " does not compile");
        }
    }

    /** With a loader of its own, so that the test meets the class of this folder. */
    @SuppressWarnings("unchecked")
    private static List<List<String>> runTest(String name, Path folder) throws Exception {
        URL[] path = {folder.toUri().toURL(), TESTS.toUri().toURL()};
        PrintStream out = System.out;
        try (URLClassLoader loader = new URLClassLoader(path, ClassLoader.getPlatformClassLoader())) {
            System.setOut(new PrintStream(OutputStream.nullOutputStream()));
            Constructor<?> constructor = loader.loadClass(name).getConstructor();
            Method run = loader.loadClass("Sentences").getDeclaredMethod("runForBreaks");
            run.setAccessible(true);
            return new ArrayList<>((List<List<String>>) run.invoke(constructor.newInstance()));
        } finally {
            System.setOut(out);
        }
    }

    private Breaks() {
    }
}
