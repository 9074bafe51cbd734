/** The sentences of the document's description that name a boundary case, each with a test of its own. */
public final class DescriptionEdgesTest extends Sentences {
    public static void main(String[] args) {
        new DescriptionEdgesTest().run();
    }

    @Override
    void tests() {
        conventions();
        columns();
        rectangles();
        water();
        treeAndStrokes();
        changes();
    }

    // ---- the object and its codes

    private void conventions() {
        says(DESCRIPTION, "An object is used for at most 512 calls after it has been made", this::all512Calls);
        says(DESCRIPTION, "what later calls answer is free", this::laterCallsAnswerSomething);
        says(DESCRIPTION, "BAD = -1, STATE = -2, FULL = -3, NONE = -9", this::constants);
        says(DESCRIPTION, "BAD (-1), an argument is out of its range or names something that does not exist",
                this::everyArgumentAtItsEnds);
        says(DESCRIPTION, "STATE (-2), the call is not possible now, as the method says", this::notPossibleNow);
        says(DESCRIPTION, "FULL (-3), a maximum would be exceeded", this::maximumExceeded);
        says(DESCRIPTION, "If several of them apply to one call, the first one in this list is returned.",
                this::severalCodes);
        says(DESCRIPTION, "A call that returns one of them changes nothing.", this::refusedCallsChangeNothing);
        says(DESCRIPTION, "it is returned only if no error code applies", this::noneOnlyWithoutError);
    }

    private void all512Calls() {
        HistogramStairs x = new HistogramStairs();
        int[] heights = new int[40];
        for (int i = 0; i < 40; i++) {
            heights[i] = i;
            due(x, "insert(" + i + ", " + i + ")", i + 1);
        }
        for (int call = 41; call <= 511; call++) {
            int i = call * 7 % 40;
            due(x, "set(" + i + ", " + call % 51 + ")", heights[i]);
            heights[i] = call % 51;
        }
        due(x, "undo()", 7);
    }

    /** The answers are free, but LANGUAGE.md wants one from every call, in any state. */
    private void laterCallsAnswerSomething() {
        HistogramStairs x = flat(40, 5);
        int answered = 0;
        for (int later = 0; later < 10_000; later++) {
            Calls.on(x, later % Calls.NAMES.length, later % 43 - 1, later % 54 - 1, later % 11);
            answered++;
        }
        due("later calls", answered, 10_000);
    }

    private void constants() {
        due("BAD", constant("BAD"), -1);
        due("STATE", constant("STATE"), -2);
        due("FULL", constant("FULL"), -3);
        due("NONE", constant("NONE"), -9);
    }

    /** As the class has it now; by its name alone, it would be as it was when the test was compiled. */
    private static int constant(String name) {
        try {
            return HistogramStairs.class.getField(name).getInt(null);
        } catch (ReflectiveOperationException missing) {
            throw new IllegalStateException(missing);
        }
    }

    /** Each argument of each method at both ends of its range, and beyond them; the others are fit. */
    private void everyArgumentAtItsEnds() {
        ends("insert(#, 1)", 0, 3);
        ends("insert(1, #)", 0, 50);
        ends("remove(#)", 0, 2);
        ends("set(#, 1)", 0, 2);
        ends("set(1, #)", 0, 50);
        ends("raise(#, 1, 1)", 0, 1);
        ends("raise(1, #, 1)", 1, 2);
        ends("raise(1, 1, #)", -50, 50);
        ends("reverse(#, 1)", 0, 1);
        ends("reverse(1, #)", 1, 2);
        ends("sort(#, 1, 1)", 0, 1);
        ends("sort(1, #, 1)", 1, 2);
        ends("sort(0, 2, #)", 0, 1);
        ends("told(#)", 0, 11);
        ends("column(#, 0)", 0, 2);
        ends("column(1, #)", 0, 9);
        ends("stair(#, 0)", 0, 2);
        ends("stair(1, #)", 0, MOST);
        ends("range(#, 1, 0)", 0, 1);
        ends("range(1, #, 0)", 1, 2);
        ends("range(0, 2, #)", 0, 8);
        ends("rectangle(#, 0)", 0, MOST);
        ends("rectangle(0, #)", 0, 5);
        ends("container(#)", 0, 2);
        ends("pool(#, 0)", 0, MOST);
        ends("pool(0, #)", 0, 4);
        ends("drained(#)", 0, 2);
        ends("dam(#, 0)", 1, 50);
        ends("dam(1, #)", 0, 1);
        ends("ranges(#)", 0, 50);
        ends("keep(#)", 0, 1);
        ends("back(#)", 0, 1);
        ends("parting(#)", 0, 1);
    }

    private void ends(String text, int least, int most) {
        for (String fit : with(text, least, most)) {
            int answer = call(threeColumns(), fit);
            yes(fit + " is not refused, but answered " + answer, answer >= 0 || answer == NONE);
        }
        unmoved(this::threeColumns, BAD, with(text, least - 1, LEAST));
        if (most < MOST) {
            unmoved(this::threeColumns, BAD, with(text, most + 1, MOST));
        }
    }

    /** With a pool, three rectangles, and both images kept. */
    private HistogramStairs threeColumns() {
        HistogramStairs x = of(3, 1, 2);
        call(x, "keep(0)");
        call(x, "keep(1)");
        return x;
    }

    private void notPossibleNow() {
        unmoved(HistogramStairs::new, STATE, "undo()", "dam(1, 0)", "back(0)", "back(1)", "parting(0)", "parting(1)");
        HistogramStairs x = of(1, 0, 1);
        due(x, "dam(1, 0)", 0);
        due(x, "undo()", 2);
        call(x, "keep(0)");
        due(x, "parting(0)", NONE);
        due(x, "back(0)", 2);
    }

    private void maximumExceeded() {
        unmoved(() -> flat(40, 1), FULL, "insert(0, 0)", "insert(40, 50)");
        due(flat(39, 1), "insert(39, 50)", 40);
    }

    private void severalCodes() {
        unmoved(() -> flat(40, 1), BAD, "insert(-1, 1)", "insert(41, 1)", "insert(0, -1)", "insert(40, 51)");
        unmoved(() -> flat(40, 1), FULL, "insert(40, 50)");
        unmoved(HistogramStairs::new, BAD, "dam(0, 0)", "dam(51, 1)", "dam(1, -1)", "dam(50, 2)", "dam(0, 2)");
        unmoved(HistogramStairs::new, STATE, "dam(50, 1)");
    }

    private void refusedCallsChangeNothing() {
        unmoved(this::manyStates, BAD, "insert(-1, 1)", "insert(4, 1)", "insert(0, -1)", "insert(0, 51)",
                "remove(-1)", "remove(3)", "set(-1, 1)", "set(3, 1)", "set(0, -1)", "set(0, 51)",
                "raise(-1, 0, 1)", "raise(0, 3, 1)", "raise(1, 0, 1)", "raise(0, 0, 51)", "raise(0, 0, -51)",
                "reverse(-1, 2)", "reverse(0, 3)", "reverse(2, 0)", "sort(-1, 2, 1)", "sort(0, 3, 1)",
                "sort(2, 0, 1)", "sort(0, 2, 2)", "sort(0, 2, -1)");
        unmoved(this::manyStates, BAD, "told(12)", "column(3, 0)", "column(0, 10)", "stair(3, 0)", "stair(0, -1)",
                "range(1, 0, 0)", "range(0, 2, 9)", "rectangle(-1, 0)", "rectangle(0, 6)", "container(3)",
                "pool(-1, 0)", "pool(0, 5)", "drained(3)", "dam(0, 0)", "dam(51, 0)", "dam(1, 2)", "ranges(51)",
                "keep(-1)", "keep(2)", "back(-1)", "back(2)", "parting(-1)", "parting(2)");
        unmoved(() -> flat(40, 7), FULL, "insert(0, 1)", "insert(40, 1)");
        unmoved(() -> of(1, 0, 2), STATE, "back(0)", "back(1)", "parting(0)", "parting(1)");
        unmoved(() -> oneImage(0), STATE, "back(1)", "parting(1)");
        unmoved(() -> oneImage(1), STATE, "back(0)", "parting(0)");
        unmoved(this::nothingToUndo, STATE, "undo()", "dam(1, 0)");
    }

    private HistogramStairs oneImage(int i) {
        HistogramStairs x = of(1, 0, 2);
        call(x, "keep(" + i + ")");
        call(x, "set(1, 7)");
        return x;
    }

    /** Eight states, all different, and two images that differ from them. */
    private HistogramStairs manyStates() {
        HistogramStairs x = of(4, 0, 6);
        call(x, "keep(0)");
        call(x, "insert(3, 9)");
        call(x, "keep(1)");
        for (int height = 1; height <= 8; height++) {
            call(x, "set(1, " + height + ")");
        }
        call(x, "remove(3)");
        return x;
    }

    /** All is undone, but the images are kept. */
    private HistogramStairs nothingToUndo() {
        HistogramStairs x = of(4, 5);
        call(x, "keep(0)");
        call(x, "undo()");
        call(x, "keep(1)");
        call(x, "undo()");
        return x;
    }

    private void noneOnlyWithoutError() {
        unmoved(() -> of(7), BAD, "column(1, 1)", "column(0, 10)", "stair(1, 9)", "stair(0, -1)", "stair(1, -1)",
                "rectangle(9, 6)", "rectangle(9, -1)", "rectangle(-1, 9)", "pool(9, 5)", "pool(9, -1)", "pool(-1, 9)",
                "container(3)", "container(-1)");
        unmoved(() -> of(0), BAD, "range(0, 0, 9)", "range(0, 1, 6)", "range(-1, 0, 7)");
        unmoved(HistogramStairs::new, BAD, "told(12)", "told(-1)", "container(3)", "parting(2)", "column(0, 6)");
        unmoved(HistogramStairs::new, STATE, "parting(0)");
        unmoved(() -> of(7), NONE, "column(0, 1)", "stair(0, 1)", "rectangle(1, 5)", "pool(0, 4)", "container(2)");
    }

    // ---- columns

    private void columns() {
        says(DESCRIPTION, "with N from 0 to 40 (0 at first)", this::fromNoneTo40Columns);
        says(DESCRIPTION, "a height from 0 to 50", this::heightsFrom0To50);
        says(DESCRIPTION, "from a first one to a last one, which may be the same", this::rangesOfOneColumn);
        says(DESCRIPTION, "its minimum is the least height of its columns", this::minimumAtTheEnds);
        says(DESCRIPTION, "the greatest j < i with a height less than that of i", this::smallerToTheLeft);
        says(DESCRIPTION, "the least j > i with a height less than that of i", this::smallerToTheRight);
        says(DESCRIPTION, "Nearest greater columns are found likewise.", this::greater);
        says(DESCRIPTION, "the list that begins with i", this::stairBegins);
        says(DESCRIPTION, "each column is followed by its nearest smaller column to the left, as long as there is one",
                this::stairEnds);
    }

    private void fromNoneTo40Columns() {
        HistogramStairs x = new HistogramStairs();
        due(x, "told(0)", 0);
        for (int n = 1; n <= 40; n++) {
            due(x, "insert(0, 1)", n);
        }
        due(x, "insert(0, 1)", FULL);
        due(x, "told(0)", 40);
        due(x, "column(39, 0)", 1);
        due(x, "column(40, 0)", BAD);
        for (int n = 39; n >= 0; n--) {
            due(x, "remove(" + n + ")", 1);
        }
        due(x, "told(0)", 0);
        due(x, "remove(0)", BAD);
    }

    private void heightsFrom0To50() {
        HistogramStairs x = new HistogramStairs();
        due(x, "insert(0, 0)", 1);
        due(x, "insert(1, 50)", 2);
        due(x, "insert(0, -1)", BAD);
        due(x, "insert(0, 51)", BAD);
        due(x, "set(0, 51)", BAD);
        due(x, "set(1, -1)", BAD);
        due(x, "raise(0, 1, 1)", 1);
        heights(x, 1, 50);
        due(x, "raise(0, 1, -2)", 2);
        heights(x, 0, 48);
        due(x, "set(0, 50)", 0);
        due(x, "set(1, 0)", 48);
        heights(x, 50, 0);
    }

    private void rangesOfOneColumn() {
        HistogramStairs x = of(4, 0, 7, 2);
        each(x, "range(2, 2, #)", 7, 2, 7, 2, 7, 7, 2, 2, 7);
        each(x, "range(0, 0, #)", 4, 0, 4, 0, 4, 4, 0, 0, 4);
        each(x, "range(3, 3, #)", 2, 3, 2, 3, 2, 2, 3, 3, 2);
        due(x, "raise(2, 2, 1)", 1);
        due(x, "reverse(3, 3)", 0);
        due(x, "sort(0, 0, 1)", 0);
        due(x, "sort(3, 3, 0)", 0);
        heights(x, 4, 0, 8, 2);
        due(x, "ranges(8)", 1);
        due(of(7), "sumOfMinima()", 7);
    }

    private void minimumAtTheEnds() {
        HistogramStairs x = of(1, 5, 3, 5, 0);
        due(x, "range(1, 3, 0)", 3);
        due(x, "range(0, 3, 0)", 1);
        due(x, "range(1, 4, 0)", 0);
        due(x, "range(2, 3, 0)", 3);
        due(x, "range(1, 2, 0)", 3);
    }

    private void smallerToTheLeft() {
        each(of(2, 1, 3, 3, 1, 0), "column(#, 1)", NONE, NONE, 1, 1, NONE, NONE);
        each(of(0, 1, 5), "column(#, 1)", NONE, 0, 1);
        each(of(4, 4), "column(#, 1)", NONE, NONE);
    }

    private void smallerToTheRight() {
        each(of(2, 1, 3, 3, 1, 0), "column(#, 2)", 1, 5, 4, 4, 5, NONE);
        each(of(5, 1, 0), "column(#, 2)", 1, 2, NONE);
        each(of(4, 4), "column(#, 2)", NONE, NONE);
    }

    private void greater() {
        each(of(2, 1, 3, 3, 1, 0), "column(#, 3)", NONE, 0, NONE, NONE, 3, 4);
        each(of(2, 1, 3, 3, 1, 0), "column(#, 4)", 2, 2, NONE, NONE, NONE, NONE);
        each(of(4, 4), "column(#, 3)", NONE, NONE);
        each(of(4, 4), "column(#, 4)", NONE, NONE);
        due(of(9, 8, 1), "column(2, 3)", 1);
        due(of(1, 8, 9), "column(0, 4)", 1);
    }

    private void stairBegins() {
        each(of(1, 0, 4, 4, 2, 3), "stair(#, 0)", 0, 1, 2, 3, 4, 5);
        due(of(0), "column(0, 9)", 1);
    }

    private void stairEnds() {
        HistogramStairs x = of(1, 0, 4, 4, 2, 3);
        each(x, "stair(5, #)", 5, 4, 1, NONE, NONE);
        each(x, "stair(3, #)", 3, 1, NONE);
        each(x, "stair(0, #)", 0, NONE);
        each(x, "column(#, 9)", 1, 1, 2, 2, 2, 3);
        HistogramStairs rising = stepping(40, 0, 1);
        due(rising, "stair(39, 39)", 0);
        due(rising, "stair(39, 40)", NONE);
        due(rising, "column(39, 9)", 40);
    }

    // ---- rectangles

    private void rectangles() {
        says(DESCRIPTION, "a height from 1 to the minimum of the range", this::rectanglesOfHeight1);
        says(DESCRIPTION, "the range can be made longer at neither of its ends without a smaller minimum",
                this::longerAtNeitherEnd);
        says(DESCRIPTION, "numbered from 0 in the order of their areas, the greatest first", this::greatestAreaFirst);
        says(DESCRIPTION, "those with the same area by their first columns, the lowest first", this::sameArea);
        says(DESCRIPTION, "those with the same first column, too, by their last columns, the lowest first",
                this::sameFirstColumn);
        says(DESCRIPTION, "the columns of its range whose height is that of the rectangle", this::owners);
    }

    private void rectanglesOfHeight1() {
        due(of(0), "told(5)", 0);
        due(of(0), "rectangle(0, 0)", NONE);
        due(of(1), "told(5)", 1);
        each(of(1), "rectangle(0, #)", 1, 0, 0, 1, 1, 0);
        due(of(3, 0, 4), "told(5)", 2);
        each(of(0, 1, 0), "rectangle(0, #)", 1, 1, 1, 1, 1, 1);
        due(of(0, 1, 0), "rectangle(1, 0)", NONE);
        each(flat(40, 50), "rectangle(0, #)", 2000, 0, 39, 50, 40, 0);
    }

    private void longerAtNeitherEnd() {
        due(of(2, 2), "told(5)", 1);
        each(of(2, 2), "rectangle(0, #)", 4, 0, 1, 2, 2, 0);
        // Beside the lower column each higher one is a rectangle; at the ends of the histogram nothing is longer.
        due(of(3, 3, 1, 3), "told(5)", 3);
        each(of(3, 3, 1, 3), "rectangle(0, #)", 6, 0, 1, 3, 2, 0);
        each(of(3, 3, 1, 3), "rectangle(1, #)", 4, 0, 3, 1, 1, 2);
        each(of(3, 3, 1, 3), "rectangle(2, #)", 3, 3, 3, 3, 1, 3);
        due(of(2, 3, 2), "told(5)", 2);
        each(of(2, 3, 2), "rectangle(0, #)", 6, 0, 2, 2, 2, 0);
    }

    private void greatestAreaFirst() {
        each(of(1, 5, 1), "rectangle(#, 0)", 5, 3, NONE);
        each(of(2, 0, 9), "rectangle(#, 0)", 9, 2, NONE);
        each(of(9, 0, 2), "rectangle(#, 0)", 9, 2, NONE);
        each(of(1, 1, 1, 0, 2), "rectangle(#, 0)", 3, 2, NONE);
    }

    private void sameArea() {
        each(of(3, 0, 3), "rectangle(#, 1)", 0, 2, NONE);
        // 4 x 1 from column 0 on, and 1 x 4 at column 1, whose owner is the lower one.
        each(of(2, 4, 2, 1), "rectangle(#, 0)", 6, 4, 4, NONE);
        each(of(2, 4, 2, 1), "rectangle(#, 1)", 0, 0, 1, NONE);
        each(of(2, 4, 2, 1), "rectangle(#, 5)", 0, 3, 1, NONE);
        // The lower first column comes first though its last column is the higher one.
        each(of(1, 2), "rectangle(#, 1)", 0, 1, NONE);
        each(of(1, 2), "rectangle(#, 2)", 1, 1, NONE);
    }

    private void sameFirstColumn() {
        each(of(6, 3, 2), "rectangle(#, 0)", 6, 6, 6, NONE);
        each(of(6, 3, 2), "rectangle(#, 1)", 0, 0, 0, NONE);
        each(of(6, 3, 2), "rectangle(#, 2)", 0, 1, 2, NONE);
        each(of(6, 3, 2), "rectangle(#, 3)", 6, 3, 2, NONE);
    }

    private void owners() {
        // Column 4 is as high as the owners of columns 0 to 2, but not in their range.
        HistogramStairs x = of(2, 3, 2, 1, 2);
        each(x, "rectangle(#, 0)", 6, 5, 3, 2, NONE);
        each(x, "rectangle(#, 4)", 2, 1, 1, 1, NONE);
        each(x, "rectangle(#, 5)", 0, 3, 1, 4, NONE);
        due(of(3, 2, 2), "rectangle(0, 5)", 1);
    }

    // ---- water

    private void water() {
        says(DESCRIPTION, "The depth of a column i is the smaller one of the greatest height among the columns 0 to i, "
                + "and the greatest height among the columns i to N - 1, minus the height of i.", this::depths);
        says(DESCRIPTION, "The water is the sum of the depths of all columns.", this::sumOfDepths);
        says(DESCRIPTION, "A pool is a range of columns whose depths are all greater than 0, "
                + "and that cannot be made longer", this::poolsAndDryColumns);
        says(DESCRIPTION, "pools are numbered from 0 from left to right", this::poolsFromTheLeft);
        says(DESCRIPTION, "the height plus the depth of any column in it", this::levels);
        says(DESCRIPTION, "(it is the same for all of them)", this::levelOfAllColumns);
        says(DESCRIPTION, "as if the columns 0 to i and the columns i to N - 1 were two histograms", this::drains);
    }

    private void depths() {
        due(of(9), "column(0, 5)", 0);
        each(of(3, 1, 3), "column(#, 5)", 0, 2, 0);
        each(of(2, 0, 3, 1), "column(#, 5)", 0, 2, 0, 0);
        each(of(1, 3, 0, 2, 0), "column(#, 5)", 0, 0, 2, 0, 0);
        each(of(0, 4), "column(#, 5)", 0, 0);
        each(of(50, 0, 50), "column(#, 5)", 0, 50, 0);
        due(basin(50, 49), "column(38, 5)", 49);
        due(basin(50, 49), "column(1, 5)", 49);
    }

    private void sumOfDepths() {
        due(of(), "told(3)", 0);
        due(of(9), "told(3)", 0);
        due(of(9, 0), "told(3)", 0);
        due(of(1, 0, 1), "told(3)", 1);
        due(of(4, 1, 2, 0, 3), "told(3)", 2 + 1 + 3);
        due(basin(50, 50), "told(3)", 1900);
    }

    private void poolsAndDryColumns() {
        // A column that rises just to the level parts two pools, one below it does not.
        due(of(3, 1, 3, 1, 3), "told(4)", 2);
        each(of(3, 1, 3, 1, 3), "pool(#, 1)", 1, 3, NONE);
        due(of(3, 1, 2, 1, 3), "told(4)", 1);
        each(of(3, 1, 2, 1, 3), "pool(0, #)", 1, 3, 2 + 1 + 2, 3, 2);
        due(of(0, 0, 2, 0, 2, 0), "told(4)", 1);
        each(of(0, 0, 2, 0, 2, 0), "pool(0, #)", 3, 3, 2, 2, 2);
        due(of(1, 2, 3, 3, 1), "told(4)", 0);
        each(basin(1, 1), "pool(0, #)", 1, 38, 38, 1, 1);
    }

    private void poolsFromTheLeft() {
        each(of(2, 0, 1, 0, 5, 4, 5), "pool(#, 0)", 1, 5, NONE);
        each(of(5, 4, 5, 0, 2), "pool(#, 0)", 1, 3, NONE);
        each(of(5, 4, 5, 0, 2), "pool(#, 2)", 1, 2, NONE);
    }

    private void levels() {
        due(of(4, 1, 2, 6), "pool(0, 3)", 4);
        due(of(6, 1, 2, 4), "pool(0, 3)", 4);
        due(of(6, 2, 0, 4), "pool(0, 3)", 4);
        due(of(50, 49, 50), "pool(0, 3)", 50);
        due(of(1, 0, 1), "pool(0, 3)", 1);
    }

    private void levelOfAllColumns() {
        HistogramStairs x = of(6, 3, 0, 4, 1, 5);
        due(x, "pool(0, 3)", 5);
        for (int i = 1; i <= 4; i++) {
            due("height plus depth of column " + i,
                    call(x, "column(" + i + ", 0)") + call(x, "column(" + i + ", 5)"), 5);
        }
    }

    private void drains() {
        // Column i stands in both parts: with a drain at 2, what is below its height 3 stays.
        each(of(5, 0, 3, 0, 5), "drained(#)", 0, 12 - 3, 12 - 3 - 3, 12 - 3, 0);
        each(of(2, 0, 2, 0, 2), "drained(#)", 0, 2, 0, 2, 0);
        each(of(7), "drained(#)", 0);
    }

    // ---- the tree, and strokes

    private void treeAndStrokes() {
        says(DESCRIPTION, "the column with the least height in it, of several the lowest one", this::lowestRoot);
        says(DESCRIPTION, "the parts of this range to its left and to its right, if they are not empty",
                this::emptyParts);
        says(DESCRIPTION, "0 for the root, and 1 plus the depth of its parent for the others", this::depthInTheTree);
        says(DESCRIPTION, "side by side in one row without a gap (a horizontal stroke)", this::horizontalStrokes);
        says(DESCRIPTION, "one above the other in one column without a gap (a vertical stroke)",
                this::verticalStrokes);
        says(DESCRIPTION, "a square may be painted several times", this::crossingStrokes);
    }

    private void lowestRoot() {
        each(of(1, 1, 1), "column(#, 6)", NONE, 0, 1);
        each(of(5, 1, 4, 1, 3), "column(#, 6)", 1, NONE, 3, 1, 3);
        each(of(0, 9, 0), "column(#, 6)", NONE, 2, 0);
    }

    private void emptyParts() {
        each(of(7), "column(#, 6)", NONE);
        due(of(7), "told(8)", 0);
        each(of(1, 2, 3), "column(#, 6)", NONE, 0, 1);
        each(of(3, 2, 1), "column(#, 6)", 1, 2, NONE);
        each(of(4, 2, 5, 1, 3), "column(#, 6)", 1, 3, 1, NONE, 3);
    }

    private void depthInTheTree() {
        each(of(4, 2, 5, 1, 3), "column(#, 7)", 2, 1, 2, 0, 1);
        due(of(4, 2, 5, 1, 3), "told(8)", 2);
        each(of(7), "column(#, 7)", 0);
        due(flat(40, 0), "column(39, 7)", 39);
        due(stepping(40, 40, -1), "column(0, 7)", 39);
    }

    private void horizontalStrokes() {
        due(of(2, 2, 2), "told(9)", 2);
        due(of(2, 0, 2), "told(9)", 4);
        due(of(2, 1, 2), "told(9)", 3);
        due(of(3, 1, 3), "told(9)", 5);
        due(flat(40, 1), "told(10)", 1);
    }

    private void verticalStrokes() {
        due(of(50), "told(10)", 1);
        due(of(50, 0, 50), "told(10)", 2);
        due(of(50, 50), "told(10)", 2);
        due(of(50), "told(9)", 50);
    }

    private void crossingStrokes() {
        due(of(1, 3, 1), "told(10)", 2);
        due(of(1, 3, 1, 3, 1), "told(10)", 3);
        due(of(2, 5, 2), "told(10)", 3);
    }

    // ---- changes

    private void changes() {
        says(DESCRIPTION, "Some methods are called changes below.", this::questionsRecordNothing);
        says(DESCRIPTION, "A history of at most 8 states is kept", this::eightStates);
        says(DESCRIPTION, "a change that returns no error code records the histogram before it",
                this::changesThatAlterNothing);
        says(DESCRIPTION, "if there are more than 8, the oldest one is dropped", this::oldestIsDropped);
        says(DESCRIPTION, "undo() removes the latest state and restores it", this::latestIsRestored);
        says(DESCRIPTION, "The images do not belong to a state.", this::imagesOutliveUndo);
    }

    private void questionsRecordNothing() {
        HistogramStairs x = of(3, 0, 2);
        call(x, "set(0, 4)");
        for (int what = 0; what <= 11; what++) {
            call(x, "told(" + what + ")");
            call(x, "column(1, " + what + ")");
            call(x, "range(0, 2, " + what + ")");
            call(x, "rectangle(0, " + what + ")");
            call(x, "pool(0, " + what + ")");
            call(x, "container(" + what + ")");
            call(x, "dam(9, " + what + ")");
            call(x, "keep(" + what + ")");
            call(x, "parting(" + what + ")");
            call(x, "stair(2, " + what + ")");
            call(x, "drained(" + what + ")");
            call(x, "ranges(" + what + ")");
        }
        call(x, "sumOfMinima()");
        due(x, "told(11)", 4);
        heights(x, 4, 0, 2);
        due(x, "undo()", 3);
        heights(x, 3, 0, 2);
    }

    private void eightStates() {
        HistogramStairs x = new HistogramStairs();
        for (int change = 1; change <= 7; change++) {
            call(x, "insert(0, " + change + ")");
        }
        due(x, "told(11)", 7);
        call(x, "insert(0, 8)");
        due(x, "told(11)", 8);
        call(x, "insert(0, 9)");
        due(x, "told(11)", 8);
        for (int left = 7; left >= 0; left--) {
            due(x, "undo()", left);
        }
        due(x, "undo()", STATE);
        heights(x, 1);
    }

    private void changesThatAlterNothing() {
        isChange(() -> of(1, 2), "set(0, 1)");
        isChange(() -> of(1, 2), "raise(0, 1, 0)");
        isChange(() -> of(1, 2, 1), "reverse(0, 2)");
        isChange(() -> of(1, 2), "sort(0, 1, 1)");
        isChange(() -> of(1, 2), "freeze()");
        isChange(HistogramStairs::new, "clear()");
        isChange(HistogramStairs::new, "freeze()");
        isChange(this::threeColumns, "back(0)");
        HistogramStairs refused = of(1, 2);
        due(refused, "set(2, 1)", BAD);
        due(refused, "back(0)", STATE);
        due(refused, "told(11)", 2);
        due(refused, "undo()", 1);
        heights(refused, 1);
    }

    private void oldestIsDropped() {
        HistogramStairs x = of(0);
        for (int height = 1; height <= 20; height++) {
            due(x, "set(0, " + height + ")", height - 1);
        }
        for (int left = 7; left >= 0; left--) {
            due(x, "undo()", left);
            heights(x, 12 + left);
        }
        due(x, "undo()", STATE);
        heights(x, 12);
        // What is recorded behind a dropped state is found again, too.
        for (int height = 31; height <= 39; height++) {
            call(x, "set(0, " + height + ")");
        }
        for (int left = 7; left >= 0; left--) {
            due(x, "undo()", left);
            heights(x, 31 + left);
        }
        due(x, "undo()", STATE);
    }

    private void latestIsRestored() {
        HistogramStairs x = of(1, 2, 3);
        call(x, "set(1, 9)");
        call(x, "clear()");
        due(x, "undo()", 4);
        heights(x, 1, 9, 3);
        due(x, "undo()", 3);
        heights(x, 1, 2, 3);
        call(x, "remove(0)");
        due(x, "undo()", 3);
        heights(x, 1, 2, 3);
    }

    private void imagesOutliveUndo() {
        HistogramStairs x = of(1, 2);
        call(x, "keep(0)");
        call(x, "set(0, 5)");
        call(x, "keep(1)");
        due(x, "undo()", 2);
        due(x, "parting(0)", NONE);
        due(x, "parting(1)", 0);
        due(x, "undo()", 1);
        due(x, "undo()", 0);
        due(x, "back(1)", 2);
        heights(x, 5, 2);
        due(x, "undo()", 0);
        due(x, "back(0)", 2);
        heights(x, 1, 2);
    }
}
