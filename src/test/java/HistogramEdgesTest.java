/** Promises 11 to 16: the sentences that name a boundary case, each with a test of its own. */
public final class HistogramEdgesTest extends Sentences {
    public static void main(String[] args) {
        new HistogramEdgesTest().run();
    }

    @Override
    void tests() {
        toldCounts();
        toldTheRest();
        column();
        stair();
        range();
        rectangle();
        container();
    }

    // ---- promise 11

    private void toldCounts() {
        says(11, "0 N", this::toldN);
        says(11, "1 the sum of all heights", this::toldSum);
        says(11, "2 the greatest height (0 without columns)", this::toldGreatest);
        says(11, "3 the water", this::toldWater);
        says(11, "4 pools", this::toldPools);
        says(11, "5 maximal rectangles", this::toldRectangles);
    }

    private void toldTheRest() {
        says(11, "6 columns that are greater than all columns to their left "
                + "(column 0 always is, if there is one)", this::toldSeenFromTheLeft);
        says(11, "7 columns that are greater than all columns to their right (so is column N - 1)",
                this::toldSeenFromTheRight);
        says(11, "8 the greatest depth of a column in the tree (NONE without columns)", this::toldTreeDepth);
        says(11, "9 the least number of horizontal strokes that paint it", this::toldHorizontalStrokes);
        says(11, "10 the least number of strokes, horizontal or vertical ones, that paint it", this::toldStrokes);
        says(11, "11 changes that can be undone", this::toldUndoable);
        says(11, "BAD if what is out of range", this::toldBad);
    }

    private void toldN() {
        due(of(), "told(0)", 0);
        due(of(0), "told(0)", 1);
        due(flat(40, 1), "told(0)", 40);
    }

    private void toldSum() {
        due(of(), "told(1)", 0);
        due(of(0, 0), "told(1)", 0);
        due(of(1, 50, 7), "told(1)", 58);
        due(flat(40, 50), "told(1)", 2000);
        HistogramStairs x = of(1, 2, 3);
        call(x, "remove(2)");
        due(x, "told(1)", 3);
    }

    private void toldGreatest() {
        due(of(), "told(2)", 0);
        due(of(0), "told(2)", 0);
        due(of(4, 2, 3), "told(2)", 4);
        due(of(2, 3, 4), "told(2)", 4);
        due(of(0, 50, 0), "told(2)", 50);
        HistogramStairs x = of(1, 9);
        call(x, "remove(1)");
        due(x, "told(2)", 1);
        call(x, "clear()");
        due(x, "told(2)", 0);
    }

    private void toldWater() {
        due(of(), "told(3)", 0);
        due(of(5), "told(3)", 0);
        due(of(5, 6), "told(3)", 0);
        due(of(5, 4, 6), "told(3)", 1);
        due(of(0, 5, 0), "told(3)", 0);
        due(basin(50, 50), "told(3)", 1900);
        due(basin(0, 50), "told(3)", 0);
    }

    private void toldPools() {
        due(of(), "told(4)", 0);
        due(of(5), "told(4)", 0);
        due(of(1, 0, 1), "told(4)", 1);
        HistogramStairs comb = of();
        for (int i = 0; i < 40; i++) {
            call(comb, "insert(" + i + ", " + (i + 1) % 2 + ")");
        }
        // Column 39 is at the end, so that its water runs off.
        due(comb, "told(4)", 19);
    }

    private void toldRectangles() {
        due(of(), "told(5)", 0);
        due(flat(40, 0), "told(5)", 0);
        due(flat(40, 1), "told(5)", 1);
        due(stepping(40, 1, 1), "told(5)", 40);
        due(stepping(40, 0, 1), "told(5)", 39);
        due(stepping(40, 40, -1), "told(5)", 40);
    }

    private void toldSeenFromTheLeft() {
        due(of(), "told(6)", 0);
        due(of(0), "told(6)", 1);
        due(of(0, 0, 0), "told(6)", 1);
        due(of(3, 2, 1), "told(6)", 1);
        due(of(2, 1, 2, 3), "told(6)", 2);
        due(stepping(40, 0, 1), "told(6)", 40);
    }

    private void toldSeenFromTheRight() {
        due(of(), "told(7)", 0);
        due(of(0), "told(7)", 1);
        due(of(0, 0, 0), "told(7)", 1);
        due(of(1, 2, 3), "told(7)", 1);
        due(of(3, 2, 1, 2), "told(7)", 2);
        due(stepping(40, 39, -1), "told(7)", 40);
    }

    private void toldTreeDepth() {
        due(of(), "told(8)", NONE);
        due(of(9), "told(8)", 0);
        due(of(1, 1), "told(8)", 1);
        due(of(2, 1, 2), "told(8)", 1);
        due(of(2, 1, 2, 0), "told(8)", 2);
        due(flat(40, 5), "told(8)", 39);
        HistogramStairs x = of(1);
        call(x, "clear()");
        due(x, "told(8)", NONE);
    }

    private void toldHorizontalStrokes() {
        due(of(), "told(9)", 0);
        due(of(0, 0), "told(9)", 0);
        due(of(1), "told(9)", 1);
        due(flat(40, 50), "told(9)", 50);
        due(of(1, 2, 3, 2, 1), "told(9)", 3);
        HistogramStairs comb = of();
        for (int i = 0; i < 40; i++) {
            call(comb, "insert(" + i + ", " + i % 2 * 50 + ")");
        }
        due(comb, "told(9)", 1000);
    }

    private void toldStrokes() {
        due(of(), "told(10)", 0);
        due(of(0, 0), "told(10)", 0);
        due(of(0, 5, 0), "told(10)", 1);
        due(flat(40, 39), "told(10)", 39);
        due(flat(40, 40), "told(10)", 40);
        due(flat(40, 41), "told(10)", 40);
        due(of(1, 50, 1, 50, 1), "told(10)", 3);
        due(of(1, 3), "told(10)", 2);
        HistogramStairs x = flat(5, 2);
        due(x, "told(10)", 2);
        due(x, "told(10)", 2);
        call(x, "raise(0, 4, -50)");
        due(x, "told(10)", 0);
        // Three rows along all of them and one column more, or all four columns: as many.
        due(of(3, 3, 9, 3), "told(10)", 4);
        HistogramStairs comb = of();
        for (int i = 0; i < 40; i++) {
            call(comb, "insert(" + i + ", " + i % 2 * 50 + ")");
        }
        due(comb, "told(10)", 20);
    }

    private void toldUndoable() {
        due(of(), "told(11)", 0);
        due(of(1), "told(11)", 1);
        due(flat(8, 1), "told(11)", 8);
        due(flat(9, 1), "told(11)", 8);
        HistogramStairs x = of(1, 2);
        call(x, "undo()");
        due(x, "told(11)", 1);
        call(x, "insert(9, 9)");
        due(x, "told(11)", 1);
    }

    private void toldBad() {
        unmoved(() -> of(3, 1, 2), BAD, with("told(#)", -1, 12, -9, LEAST, MOST));
        unmoved(HistogramStairs::new, BAD, with("told(#)", -1, 12, LEAST, MOST));
    }

    // ---- promise 12

    private void column() {
        says(12, "0 its height", this::columnHeight);
        says(12, "(1 to 4: NONE if there is none)", this::columnNeighbours);
        says(12, "5 its depth", this::columnDepth);
        says(12, "6 its parent in the tree (NONE for the root)", this::columnParent);
        says(12, "7 its depth in the tree", this::columnTreeDepth);
        says(12, "8 the number of columns of the longest range that contains it and has its height as the minimum",
                this::columnLongestRange);
        says(12, "9 the number of columns of its stair", this::columnStair);
        says(12, "BAD if there is no such column or what is out of range", this::columnBad);
    }

    private void columnHeight() {
        each(of(0, 50, 7), "column(#, 0)", 0, 50, 7, BAD);
        due(stepping(40, 10, 1), "column(39, 0)", 49);
    }

    private void columnNeighbours() {
        for (int what = 1; what <= 4; what++) {
            due(of(5), "column(0, " + what + ")", NONE);
            each(of(5, 5, 5), "column(#, " + what + ")", NONE, NONE, NONE);
        }
        each(of(1, 2), "column(0, #)", 1, NONE, NONE, NONE, 1);
        each(of(1, 2), "column(1, #)", 2, 0, NONE, NONE, NONE);
        each(of(2, 1), "column(0, #)", 2, NONE, 1, NONE, NONE);
        each(of(2, 1), "column(1, #)", 1, NONE, NONE, 0, NONE);
        HistogramStairs wide = basin(50, 50);
        due(wide, "column(38, 3)", 0);
        due(wide, "column(1, 4)", 39);
        due(wide, "column(39, 1)", 38);
        HistogramStairs x = of(2, 1);
        call(x, "remove(1)");
        due(x, "column(0, 2)", NONE);
        x = of(1, 2);
        call(x, "remove(1)");
        due(x, "column(0, 4)", NONE);
    }

    private void columnDepth() {
        each(of(0, 9, 0), "column(#, 5)", 0, 0, 0);
        each(of(2, 0, 1), "column(#, 5)", 0, 1, 0);
        each(of(1, 0, 2), "column(#, 5)", 0, 1, 0);
        due(of(8), "column(0, 5)", 0);
        due(of(50, 0, 50), "column(1, 5)", 50);
        HistogramStairs x = of(3, 0, 3);
        call(x, "remove(2)");
        due(x, "column(1, 5)", 0);
    }

    private void columnParent() {
        due(of(8), "column(0, 6)", NONE);
        each(of(2, 1), "column(#, 6)", 1, NONE);
        each(of(1, 2), "column(#, 6)", NONE, 0);
        each(of(4, 4, 4, 4), "column(#, 6)", NONE, 0, 1, 2);
        each(of(3, 1, 2, 1, 3), "column(#, 6)", 1, NONE, 3, 1, 3);
    }

    private void columnTreeDepth() {
        due(of(8), "column(0, 7)", 0);
        each(of(2, 1), "column(#, 7)", 1, 0);
        each(of(3, 1, 2, 1, 3), "column(#, 7)", 1, 0, 2, 1, 2);
        due(flat(40, 5), "column(39, 7)", 39);
        due(flat(40, 5), "column(0, 7)", 0);
    }

    private void columnLongestRange() {
        due(of(8), "column(0, 8)", 1);
        each(of(3, 0, 2), "column(#, 8)", 1, 3, 1);
        each(of(2, 2, 1, 2, 2), "column(#, 8)", 2, 2, 5, 2, 2);
        each(of(1, 2, 3), "column(#, 8)", 3, 2, 1);
        due(flat(40, 0), "column(17, 8)", 40);
        HistogramStairs x = of(1, 2, 3);
        call(x, "remove(2)");
        due(x, "column(0, 8)", 2);
    }

    private void columnStair() {
        due(of(8), "column(0, 9)", 1);
        each(of(3, 2, 1), "column(#, 9)", 1, 1, 1);
        each(of(1, 2, 2, 3), "column(#, 9)", 1, 2, 2, 3);
        due(stepping(40, 0, 1), "column(39, 9)", 40);
    }

    private void columnBad() {
        unmoved(HistogramStairs::new, BAD, with("column(0, #)", 0, 6, 9, 10));
        unmoved(() -> of(3, 1, 2), BAD, with("column(#, 0)", -1, 3, LEAST, MOST));
        unmoved(() -> of(3, 1, 2), BAD, with("column(0, #)", -1, 10, LEAST, MOST));
        unmoved(() -> of(3, 1, 2), BAD, with("column(3, #)", 1, 5, 6, 7, 8, 9, 10));
        due(flat(40, 1), "column(40, 0)", BAD);
    }

    // ---- promise 13

    private void stair() {
        says(13, "the index in the stair, 0 for i itself", this::stairIndex);
        says(13, "NONE if the stair does not have so many", this::stairNone);
        says(13, "BAD if there is no such column i or k is negative", this::stairBad);
    }

    private void stairIndex() {
        each(of(0, 4, 2, 2, 6), "stair(4, #)", 4, 3, 0, NONE);
        each(of(0, 4, 2, 2, 6), "stair(#, 0)", 0, 1, 2, 3, 4);
        each(of(0, 4, 2, 2, 6), "stair(#, 1)", NONE, 0, 0, 0, 3);
        due(stepping(40, 0, 1), "stair(39, 39)", 0);
    }

    private void stairNone() {
        due(of(3), "stair(0, 1)", NONE);
        due(of(3), "stair(0, " + MOST + ")", NONE);
        due(of(5, 5), "stair(1, 1)", NONE);
        due(of(1, 5), "stair(1, 1)", 0);
        due(of(1, 5), "stair(1, 2)", NONE);
        due(stepping(40, 0, 1), "stair(39, 40)", NONE);
    }

    private void stairBad() {
        unmoved(HistogramStairs::new, BAD, "stair(0, 0)");
        unmoved(() -> of(3, 1, 2), BAD, with("stair(#, 0)", -1, 3, LEAST, MOST));
        unmoved(() -> of(3, 1, 2), BAD, with("stair(1, #)", -1, LEAST));
        unmoved(() -> of(3, 1, 2), BAD, "stair(3, " + MOST + ")", "stair(-1, -1)");
    }

    // ---- promise 14

    private void range() {
        says(14, "`b`: the last column, not less than a", this::rangeOfOneColumn);
        says(14, "0 its minimum; 1 the lowest column with this height", this::rangeMinimum);
        says(14, "2 its greatest height; 3 the lowest column with this height", this::rangeGreatest);
        says(14, "4 the sum of its heights", this::rangeSum);
        says(14, "5 the area of the largest rectangle in it (0 if all heights are 0)", this::rangeArea);
        says(14, "6 its first column, 7 its last column, 8 its height", this::rangeRectangle);
        says(14, "of several largest ones the one that would come first in the order of maximal rectangles "
                + "of this range alone", this::rangeSeveralRectangles);
        says(14, "for 6 to 8, NONE if all heights are 0", this::rangeWithoutRectangle);
        says(14, "BAD if there is no such column, b is less than a, or what is out of range", this::rangeBad);
    }

    private void rangeOfOneColumn() {
        each(of(9, 4, 9), "range(1, 1, #)", 4, 1, 4, 1, 4, 4, 1, 1, 4, BAD);
        due(of(9, 4, 9), "range(1, 0, 0)", BAD);
        due(of(9, 4, 9), "range(2, 1, 0)", BAD);
        due(of(9, 4, 9), "range(2, 2, 0)", 9);
    }

    private void rangeMinimum() {
        HistogramStairs x = of(3, 1, 2, 1, 0);
        due(x, "range(0, 3, 0)", 1);
        due(x, "range(0, 3, 1)", 1);
        due(x, "range(2, 3, 1)", 3);
        due(x, "range(1, 3, 1)", 1);
        due(x, "range(0, 4, 0)", 0);
        due(x, "range(0, 4, 1)", 4);
        due(flat(40, 6), "range(7, 39, 1)", 7);
    }

    private void rangeGreatest() {
        HistogramStairs x = of(1, 4, 2, 4, 9);
        due(x, "range(0, 3, 2)", 4);
        due(x, "range(0, 3, 3)", 1);
        due(x, "range(2, 3, 3)", 3);
        due(x, "range(1, 3, 3)", 1);
        due(x, "range(0, 4, 2)", 9);
        due(x, "range(0, 4, 3)", 4);
        due(flat(40, 6), "range(7, 39, 3)", 7);
        due(of(0, 0), "range(0, 1, 2)", 0);
    }

    private void rangeSum() {
        due(of(1, 2, 4, 8), "range(1, 2, 4)", 6);
        due(of(1, 2, 4, 8), "range(0, 3, 4)", 15);
        due(of(0, 0), "range(0, 1, 4)", 0);
        due(flat(40, 50), "range(0, 39, 4)", 2000);
    }

    private void rangeArea() {
        due(of(0), "range(0, 0, 5)", 0);
        due(of(5, 0, 0, 5), "range(1, 2, 5)", 0);
        due(of(5, 0, 0, 5), "range(1, 3, 5)", 5);
        due(of(0, 1), "range(0, 1, 5)", 1);
        due(flat(40, 50), "range(0, 39, 5)", 2000);
        due(of(2, 1, 5, 6, 2, 3), "range(0, 5, 5)", 10);
    }

    private void rangeRectangle() {
        // The largest rectangle is cut at the ends of the range, though the histogram goes on.
        each(of(3, 3, 3, 3), "range(1, 2, #)", 3, 1, 3, 1, 6, 6, 1, 2, 3);
        each(of(2, 1, 5, 6, 2, 3), "range(0, 5, #)", 1, 1, 6, 3, 19, 10, 2, 3, 5);
        each(of(2, 1, 5, 6, 2, 3), "range(3, 5, #)", 2, 4, 6, 3, 11, 6, 3, 3, 6);
    }

    private void rangeSeveralRectangles() {
        HistogramStairs x = of(4, 2, 0, 4, 2, 2);
        // In columns 0 to 3: 1 x 4 at 0, 2 x 2 from 0 on, 1 x 4 at 3, of which the lowest first and last column wins.
        rectangleOf(x, 0, 3, 4, 0, 0, 4);
        rectangleOf(x, 1, 3, 4, 3, 3, 4);
        rectangleOf(x, 2, 4, 4, 3, 3, 4);
        // In columns 0 to 5, 3 x 2 is larger than all of them.
        rectangleOf(x, 0, 5, 6, 3, 5, 2);
        rectangleOf(of(1, 2), 0, 1, 2, 0, 1, 1);
        rectangleOf(of(6, 3, 2), 0, 2, 6, 0, 0, 6);
    }

    private void rectangleOf(HistogramStairs x, int a, int b, int area, int first, int last, int height) {
        String range = "range(" + a + ", " + b + ", ";
        due(x, range + "5)", area);
        due(x, range + "6)", first);
        due(x, range + "7)", last);
        due(x, range + "8)", height);
    }

    private void rangeWithoutRectangle() {
        each(of(0), "range(0, 0, #)", 0, 0, 0, 0, 0, 0, NONE, NONE, NONE);
        each(of(5, 0, 0, 5), "range(1, 2, #)", 0, 1, 0, 1, 0, 0, NONE, NONE, NONE);
        rectangleOf(of(0, 1, 0), 0, 2, 1, 1, 1, 1);
        rectangleOf(flat(40, 0), 0, 39, 0, NONE, NONE, NONE);
    }

    private void rangeBad() {
        unmoved(HistogramStairs::new, BAD, "range(0, 0, 0)", "range(0, 0, 5)", "range(0, -1, 4)", "range(0, -1, 6)");
        unmoved(() -> of(3, 1, 2), BAD, with("range(#, 1, 5)", -1, 2, LEAST, MOST));
        unmoved(() -> of(3, 1, 2), BAD, with("range(1, #, 5)", -1, 0, 3, LEAST, MOST));
        unmoved(() -> of(3, 1, 2), BAD, with("range(0, 2, #)", -1, 9, LEAST, MOST));
        unmoved(() -> of(3, 1, 2), BAD, with("range(0, 3, #)", 0, 1, 2, 3, 4, 5, 6, 7, 8));
        unmoved(() -> of(3, 1, 2), BAD, "range(3, 3, 0)", "range(-1, -1, 0)", "range(2, 0, 4)");
    }

    // ---- promise 15

    private void rectangle() {
        says(15, "0 its area; 1 its first column; 2 its last column; 3 its height; 4 the number of its owners; "
                + "5 its lowest owner", this::rectangleProperties);
        says(15, "NONE if there are not so many", this::rectangleNone);
        says(15, "BAD if k is negative or what is out of range", this::rectangleBad);
    }

    private void rectangleProperties() {
        HistogramStairs x = of(3, 1, 2);
        each(x, "rectangle(0, #)", 3, 0, 0, 3, 1, 0);
        each(x, "rectangle(1, #)", 3, 0, 2, 1, 1, 1);
        each(x, "rectangle(2, #)", 2, 2, 2, 2, 1, 2);
        each(flat(40, 50), "rectangle(0, #)", 2000, 0, 39, 50, 40, 0);
        // Columns i to 39 have the area (i + 1) * (40 - i), so i and 39 - i have the same.
        HistogramStairs rising = stepping(40, 1, 1);
        each(rising, "rectangle(0, #)", 420, 19, 39, 20, 1, 19);
        each(rising, "rectangle(1, #)", 420, 20, 39, 21, 1, 20);
        each(rising, "rectangle(38, #)", 40, 0, 39, 1, 1, 0);
        each(rising, "rectangle(39, #)", 40, 39, 39, 40, 1, 39);
    }

    private void rectangleNone() {
        for (int what = 0; what <= 5; what++) {
            due(of(), "rectangle(0, " + what + ")", NONE);
            due(of(0, 0), "rectangle(0, " + what + ")", NONE);
            due(of(1), "rectangle(1, " + what + ")", NONE);
            due(of(3, 1, 2), "rectangle(3, " + what + ")", NONE);
            due(of(3, 1, 2), "rectangle(" + MOST + ", " + what + ")", NONE);
        }
        due(of(1), "rectangle(0, 0)", 1);
        due(stepping(40, 1, 1), "rectangle(40, 0)", NONE);
        HistogramStairs x = of(3, 1, 2);
        due(x, "rectangle(2, 0)", 2);
        call(x, "clear()");
        due(x, "rectangle(0, 0)", NONE);
    }

    private void rectangleBad() {
        unmoved(() -> of(3, 1, 2), BAD, with("rectangle(#, 0)", -1, LEAST));
        unmoved(() -> of(3, 1, 2), BAD, with("rectangle(#, 5)", -1, LEAST));
        unmoved(() -> of(3, 1, 2), BAD, with("rectangle(0, #)", -1, 6, LEAST, MOST));
        unmoved(() -> of(3, 1, 2), BAD, with("rectangle(3, #)", -1, 6));
        unmoved(HistogramStairs::new, BAD, "rectangle(-1, 0)", "rectangle(0, 6)", "rectangle(0, -1)");
    }

    // ---- promise 16

    private void container() {
        says(16, "the two columns i < j for which the smaller one of their heights times (j - i) is greatest",
                this::containerGreatest);
        says(16, "of several, those with the lowest i", this::containerLowestLeft);
        says(16, "then with the lowest j", this::containerLowestRight);
        says(16, "NONE if there are less than two columns", this::containerNone);
        says(16, "BAD if what is out of range", this::containerBad);
    }

    private void containerGreatest() {
        each(of(5, 6), "container(#)", 5, 0, 1);
        each(of(1, 8, 6, 2, 5, 4, 8, 3, 7), "container(#)", 49, 1, 8);
        each(of(9, 9, 1), "container(#)", 9, 0, 1);
        each(of(1, 9, 9), "container(#)", 9, 1, 2);
        each(flat(40, 50), "container(#)", 1950, 0, 39);
        each(basin(50, 1), "container(#)", 39, 0, 39);
    }

    private void containerLowestLeft() {
        // 1 x 3 of the columns 0 and 3, and 3 x 1 of the columns 1 and 2.
        each(of(1, 3, 3, 1), "container(#)", 3, 0, 3);
        each(of(4, 4, 0, 4, 4, 0), "container(#)", 16, 0, 4);
        each(of(0, 2, 2, 0, 2, 2, 0), "container(#)", 8, 1, 5);
        each(of(4, 4, 0, 2, 0), "container(#)", 6, 0, 3);
        each(of(0, 6, 6, 0, 3), "container(#)", 9, 1, 4);
        each(of(6, 6, 0, 0), "container(#)", 6, 0, 1);
        each(of(3, 6, 6), "container(#)", 6, 0, 2);
    }

    private void containerLowestRight() {
        each(of(6, 6, 3), "container(#)", 6, 0, 1);
        each(of(6, 0, 3, 2), "container(#)", 6, 0, 2);
        each(of(0, 0, 0), "container(#)", 0, 0, 1);
        each(of(0, 7), "container(#)", 0, 0, 1);
    }

    private void containerNone() {
        each(of(), "container(#)", NONE, NONE, NONE);
        each(of(7), "container(#)", NONE, NONE, NONE);
        each(of(0, 0), "container(#)", 0, 0, 1);
        HistogramStairs x = of(7, 7);
        call(x, "remove(0)");
        each(x, "container(#)", NONE, NONE, NONE);
    }

    private void containerBad() {
        unmoved(() -> of(3, 1), BAD, with("container(#)", -1, 3, LEAST, MOST));
        unmoved(() -> of(3), BAD, with("container(#)", -1, 3, LEAST, MOST));
        unmoved(HistogramStairs::new, BAD, with("container(#)", -1, 3, LEAST, MOST));
    }
}
