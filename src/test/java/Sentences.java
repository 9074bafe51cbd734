import java.io.IOException;
import java.nio.file.Files;
import java.nio.file.Path;
import java.util.ArrayList;
import java.util.IdentityHashMap;
import java.util.List;
import java.util.Map;
import java.util.function.Supplier;

/** Tests that each belong to one sentence of the document; its words stand beside the test, and are looked up there. */
abstract class Sentences {
    static final int BAD = HistogramStairs.BAD;
    static final int STATE = HistogramStairs.STATE;
    static final int FULL = HistogramStairs.FULL;
    static final int NONE = HistogramStairs.NONE;
    static final int LEAST = Integer.MIN_VALUE;
    static final int MOST = Integer.MAX_VALUE;
    /** The number for the parts of the document that are no promise. */
    static final int DESCRIPTION = 0;
    static final int MOST_CALLS = 512;

    private static final int PROMISES = 24;
    private static final Path DOCUMENT = Path.of("../shared/DOC.md");

    private final Check check = new Check(getClass().getName(), 1000);
    private final String[] sections = readSections();
    private final Map<HistogramStairs, Integer> callsOf = new IdentityHashMap<>();
    private final List<String> known = new ArrayList<>();
    private final List<String> broken = new ArrayList<>();
    private String sentence = "";

    /** Makes the test of each sentence known by says(). */
    abstract void tests();

    final void run() {
        if (sections == null) {
            System.out.println("NOTE: no " + DOCUMENT + " here, so the sentences are not looked up in it");
        }
        tests();
        System.out.println(getClass().getName() + ": " + known.size() + " sentences, " + broken.size() + " broken");
        check.end();
    }

    /** For Breaks: all sentences, then those that do not hold, each as its promise, a colon and its words. */
    final List<List<String>> runForBreaks() {
        tests();
        return List.of(known, broken);
    }

    /** The words stand in this promise of the document, and the test fails if the class breaks them. */
    final void says(int promise, String words, Runnable test) {
        known.add(promise + ": " + words);
        sentence = (promise == DESCRIPTION ? "description" : "promise " + promise) + ", '" + words + "': ";
        callsOf.clear();
        if (sections != null) {
            check.yes(sentence + "the document says so", sections[promise].contains(words));
        }
        int checkedBefore = check.checkedSoFar();
        int wrongBefore = check.wrongSoFar();
        try {
            test.run();
        } catch (RuntimeException thrown) {
            check.yes(sentence + "no call throws, but there was " + thrown, false);
        }
        check.yes(sentence + "the test asks something", check.checkedSoFar() > checkedBefore);
        if (check.wrongSoFar() > wrongBefore) {
            broken.add(promise + ": " + words);
        }
    }

    // ---- calls

    /** Makes a call that is written as in Java. */
    final int call(HistogramStairs x, String text) {
        int calls = callsOf.merge(x, 1, Integer::sum);
        if (calls > MOST_CALLS) {
            throw new IllegalStateException("the test makes more than 512 calls on one object");
        }
        return Calls.on(x, text);
    }

    final void due(HistogramStairs x, String text, int want) {
        check.due(sentence + text, call(x, text), want);
    }

    final void due(String what, int got, int want) {
        check.due(sentence + what, got, want);
    }

    final void yes(String what, boolean holds) {
        check.yes(sentence + what, holds);
    }

    /** The same call with 0, 1, 2 and so on in place of the # in its text. */
    final void each(HistogramStairs x, String text, int... want) {
        for (int i = 0; i < want.length; i++) {
            due(x, text.replace("#", Integer.toString(i)), want[i]);
        }
    }

    final void heights(HistogramStairs x, int... want) {
        check.same(sentence + "heights", heightsOf(x), text(want));
    }

    /** The calls answer this, mostly an error code, each on an object of its own, and change nothing. */
    final void unmoved(Supplier<HistogramStairs> maker, int want, String... texts) {
        String untouched = everything(maker.get());
        for (String text : texts) {
            HistogramStairs x = maker.get();
            due(x, text, want);
            check.same(sentence + "after " + text, everything(x), untouched);
        }
    }

    /** A call's text with each of these in place of its #. */
    static String[] with(String text, int... arguments) {
        String[] texts = new String[arguments.length];
        for (int i = 0; i < arguments.length; i++) {
            texts[i] = text.replace("#", Integer.toString(arguments[i]));
        }
        return texts;
    }

    /** The call records the histogram before it, so that undo() restores it; the object has less than 8 states. */
    final void isChange(Supplier<HistogramStairs> maker, String text) {
        HistogramStairs x = maker.get();
        int states = call(x, "told(11)");
        call(x, text);
        due(x, "told(11)", states + 1);
        due(x, "undo()", states);
        check.same(sentence + "after " + text + " and undo()", everything(x), everything(maker.get()));
    }

    // ---- objects

    final HistogramStairs of(int... heights) {
        HistogramStairs x = new HistogramStairs();
        for (int i = 0; i < heights.length; i++) {
            call(x, "insert(" + i + ", " + heights[i] + ")");
        }
        return x;
    }

    final HistogramStairs flat(int n, int height) {
        return stepping(n, height, 0);
    }

    /** Each column is higher than the one before by the step, which may be negative. */
    final HistogramStairs stepping(int n, int first, int step) {
        int[] heights = new int[n];
        for (int i = 0; i < n; i++) {
            heights[i] = first + i * step;
        }
        return of(heights);
    }

    /** Between two walls at the ends of 40 columns, nothing. */
    final HistogramStairs basin(int left, int right) {
        int[] heights = new int[40];
        heights[0] = left;
        heights[39] = right;
        return of(heights);
    }

    final String heightsOf(HistogramStairs x) {
        int n = call(x, "told(0)");
        int[] heights = new int[Math.max(0, Math.min(n, 41))];
        for (int i = 0; i < heights.length; i++) {
            heights[i] = call(x, "column(" + i + ", 0)");
        }
        return text(heights);
    }

    /**
     * All that an object holds: the histogram, the states, the images. It is told once, since telling it undoes all. No
     * undo() or back() is made that would be refused, or else what a refused call changes would not be seen.
     */
    private String everything(HistogramStairs x) {
        StringBuilder all = new StringBuilder(heightsOf(x));
        int undoable = call(x, "told(11)");
        all.append(" undoable ").append(undoable);
        for (int i = 0; i < undoable && i < 10; i++) {
            all.append(", ").append(call(x, "undo()")).append(' ').append(heightsOf(x));
        }
        for (int i = 0; i < 2; i++) {
            all.append(", image ").append(i);
            if (call(x, "parting(" + i + ")") != STATE) {
                all.append(' ').append(call(x, "back(" + i + ")")).append(' ').append(heightsOf(x));
            }
        }
        return all.toString();
    }

    private static String text(int[] heights) {
        return java.util.Arrays.toString(heights);
    }

    // ---- the document

    /** The text of each promise by its number, the rest under 0; null if there is no document to read. */
    private static String[] readSections() {
        if (!Files.isReadable(DOCUMENT)) {
            return null;
        }
        String[] sections = new String[PROMISES + 1];
        java.util.Arrays.fill(sections, "");
        for (String part : documentText().split("\n## ")) {
            int promise = DESCRIPTION;
            if (part.startsWith("Promise ")) {
                promise = Integer.parseInt(part.substring("Promise ".length(), part.indexOf(':')));
            }
            sections[promise] += part;
        }
        return sections;
    }

    private static String documentText() {
        try {
            return Files.readString(DOCUMENT);
        } catch (IOException failed) {
            throw new java.io.UncheckedIOException(failed);
        }
    }
}
