/** Promises 17 to 24: the sentences that name a boundary case, each with a test of its own. */
public final class WaterAndImagesEdgesTest extends Sentences {
    public static void main(String[] args) {
        new WaterAndImagesEdgesTest().run();
    }

    @Override
    void tests() {
        pool();
        drained();
        dam();
        allRanges();
        keep();
        back();
        parting();
    }

    // ---- promise 17

    private void pool() {
        says(17, "0 its first column; 1 its last column; 2 the sum of the depths of its columns; 3 its level; "
                + "4 the greatest depth of its columns", this::poolProperties);
        says(17, "NONE if there are not so many", this::poolNone);
        says(17, "BAD if k is negative or what is out of range", this::poolBad);
    }

    private void poolProperties() {
        each(of(1, 0, 1), "pool(0, #)", 1, 1, 1, 1, 1);
        each(of(50, 0, 50), "pool(0, #)", 1, 1, 50, 50, 50);
        each(basin(50, 50), "pool(0, #)", 1, 38, 1900, 50, 50);
        // The deepest column is the last one of the first pool, and the first one of the second.
        HistogramStairs x = of(4, 3, 1, 5, 0, 2, 3);
        each(x, "pool(0, #)", 1, 2, 1 + 3, 4, 3);
        each(x, "pool(1, #)", 4, 5, 3 + 1, 3, 3);
    }

    private void poolNone() {
        for (int what = 0; what <= 4; what++) {
            due(of(), "pool(0, " + what + ")", NONE);
            due(of(7), "pool(0, " + what + ")", NONE);
            due(of(1, 2, 1), "pool(0, " + what + ")", NONE);
            due(of(1, 0, 1), "pool(1, " + what + ")", NONE);
            due(of(1, 0, 1), "pool(" + MOST + ", " + what + ")", NONE);
        }
        due(of(1, 0, 1), "pool(0, 0)", 1);
        due(of(1, 0, 1, 0, 1), "pool(1, 0)", 3);
        due(of(1, 0, 1, 0, 1), "pool(2, 0)", NONE);
        HistogramStairs x = of(1, 0, 1);
        call(x, "freeze()");
        due(x, "pool(0, 0)", NONE);
        // Where water has stood before, but no column is any more, there is no pool.
        x = of(3, 0, 0, 3);
        due(x, "pool(0, 1)", 2);
        call(x, "remove(3)");
        call(x, "remove(2)");
        due(x, "pool(0, 0)", NONE);
    }

    private void poolBad() {
        unmoved(() -> of(3, 1, 2), BAD, with("pool(#, 0)", -1, LEAST));
        unmoved(() -> of(3, 1, 2), BAD, with("pool(#, 4)", -1, LEAST));
        unmoved(() -> of(3, 1, 2), BAD, with("pool(0, #)", -1, 5, LEAST, MOST));
        unmoved(() -> of(3, 1, 2), BAD, with("pool(1, #)", -1, 5));
        unmoved(HistogramStairs::new, BAD, "pool(-1, 0)", "pool(0, 5)", "pool(0, -1)");
    }

    // ---- promise 18

    private void drained() {
        says(18, "the water minus the water that stays with this drain", this::drainedWater);
        says(18, "BAD if there is no such column", this::drainedBad);
    }

    private void drainedWater() {
        unmoved(() -> of(3, 1, 2), 1, "drained(1)");
        // The drain at the foot of the pool takes all, at its edges nothing, in a dry place nothing.
        each(of(3, 1, 2, 2), "drained(#)", 0, 1, 0, 0);
        each(of(4, 0, 2, 4), "drained(#)", 0, 6, 6 - 2, 0);
        each(of(1, 2, 3), "drained(#)", 0, 0, 0);
        due(of(5), "drained(0)", 0);
        due(basin(50, 50), "drained(1)", 1900);
        due(basin(50, 50), "drained(38)", 1900);
        due(basin(50, 50), "drained(39)", 0);
        due(basin(50, 50), "drained(0)", 0);
    }

    private void drainedBad() {
        unmoved(HistogramStairs::new, BAD, with("drained(#)", 0, -1));
        unmoved(() -> of(3, 1, 2), BAD, with("drained(#)", -1, 3, LEAST, MOST));
        due(flat(40, 1), "drained(40)", BAD);
    }

    // ---- promise 19

    private void dam() {
        says(19, "Finds the column that should be raised so that the most water stays", this::damMostWater);
        says(19, "of all columns, it is raised by d, but not above 50", this::damNotAbove50);
        says(19, "of several, the lowest one", this::damLowest);
        says(19, "by how much, 1 to 50", this::damByHowMuch);
        says(19, "0 the column; 1 the water then", this::damWhat);
        says(19, "BAD if d or what is out of range", this::damBad);
        says(19, "STATE if there are no columns", this::damState);
    }

    private void damMostWater() {
        each(of(2, 0, 1), "dam(1, #)", 2, 2);
        each(of(1, 0, 2), "dam(1, #)", 0, 2);
        each(of(5, 0, 0, 1, 0), "dam(3, #)", 3, 4 + 4);
        each(of(5, 0, 0, 1, 0), "dam(5, #)", 4, 5 + 5 + 4);
        // What was there before counts, too, even if the dam wins nothing.
        each(of(3, 0, 3), "dam(50, #)", 0, 3);
    }

    private void damNotAbove50() {
        each(of(50, 0, 50), "dam(50, #)", 0, 50);
        each(of(49, 0, 50), "dam(50, #)", 0, 50);
        each(of(50, 0, 10, 0, 50), "dam(50, #)", 0, 50 + 40 + 50);
        each(basin(50, 0), "dam(50, #)", 39, 1900);
        unmoved(() -> of(49, 0, 50), 50, "dam(2, 1)");
    }

    private void damLowest() {
        each(of(0, 0, 0), "dam(1, #)", 0, 0);
        each(of(3, 3, 3), "dam(50, #)", 0, 0);
        each(of(3, 0, 3), "dam(1, #)", 0, 3);
        // Raised by 1, each of the two ends keeps 1 beside column 2.
        each(of(0, 0, 1, 0, 0), "dam(1, #)", 0, 1);
        each(of(2, 1, 2, 1, 2), "dam(1, #)", 0, 2);
        each(of(5, 5, 1, 2, 1, 2), "dam(1, #)", 5, 2 + 1 + 2);
    }

    private void damByHowMuch() {
        each(of(9, 0, 8), "dam(1, #)", 2, 9);
        each(of(50, 0, 0), "dam(50, #)", 2, 50);
        unmoved(() -> of(9, 0, 8), BAD, with("dam(#, 0)", 0, 51, -1));
    }

    private void damWhat() {
        each(of(7), "dam(1, #)", 0, 0);
        each(of(9, 0, 8), "dam(2, #)", 2, 9, BAD);
    }

    private void damBad() {
        unmoved(() -> of(3, 1, 2), BAD, with("dam(#, 0)", -1, 0, 51, LEAST, MOST));
        unmoved(() -> of(3, 1, 2), BAD, with("dam(#, 1)", 0, 51));
        unmoved(() -> of(3, 1, 2), BAD, with("dam(1, #)", -1, 2, LEAST, MOST));
        unmoved(HistogramStairs::new, BAD, "dam(0, 0)", "dam(51, 0)", "dam(1, 2)", "dam(1, -1)");
    }

    private void damState() {
        unmoved(HistogramStairs::new, STATE, "dam(1, 0)", "dam(50, 1)");
        HistogramStairs x = of(7);
        due(x, "dam(50, 0)", 0);
        call(x, "clear()");
        due(x, "dam(50, 0)", STATE);
        due(x, "dam(50, 1)", STATE);
    }

    // ---- promises 20 and 21

    private void allRanges() {
        says(20, "Returns the sum of the minima of all ranges.", this::sumOfMinima);
        says(21, "the least minimum, 0 to 50", this::rangesFrom0To50);
        says(21, "the number of ranges whose minimum is at least this", this::rangesAtLeast);
        says(21, "BAD if low is out of range", this::rangesBad);
    }

    private void sumOfMinima() {
        due(of(), "sumOfMinima()", 0);
        due(of(0), "sumOfMinima()", 0);
        due(of(50), "sumOfMinima()", 50);
        due(of(3, 5), "sumOfMinima()", 3 + 3 + 5);
        due(of(5, 0, 5), "sumOfMinima()", 10);
        due(flat(40, 50), "sumOfMinima()", 41000);
        due(flat(40, 1), "sumOfMinima()", 820);
        HistogramStairs x = of(3, 5);
        call(x, "remove(1)");
        due(x, "sumOfMinima()", 3);
    }

    private void rangesFrom0To50() {
        due(of(0, 50, 50), "ranges(0)", 6);
        due(of(0, 50, 49), "ranges(50)", 1);
        due(of(0, 50), "ranges(51)", BAD);
        due(of(0, 50), "ranges(-1)", BAD);
        due(flat(40, 0), "ranges(0)", 820);
        due(flat(40, 50), "ranges(50)", 820);
    }

    private void rangesAtLeast() {
        each(of(2, 3), "ranges(#)", 3, 3, 3, 1, 0);
        each(of(2, 1, 2), "ranges(#)", 6, 6, 2, 0);
        each(of(), "ranges(#)", 0, 0);
        each(of(0), "ranges(#)", 1, 0);
    }

    private void rangesBad() {
        unmoved(() -> of(3, 1, 2), BAD, with("ranges(#)", -1, 51, LEAST, MOST));
        unmoved(HistogramStairs::new, BAD, with("ranges(#)", -1, 51, LEAST, MOST));
    }

    // ---- promise 22

    private void keep() {
        says(22, "Keeps the histogram in an image, replacing what it kept before.", this::keepReplaces);
        says(22, "the image, 0 or 1", this::keepTwoImages);
        says(22, "Returns N", this::keepReturns);
        says(22, "BAD if there is no such image", this::keepBad);
    }

    private void keepReplaces() {
        HistogramStairs x = of(1, 2, 3);
        call(x, "keep(0)");
        call(x, "remove(2)");
        call(x, "set(0, 9)");
        due(x, "keep(0)", 2);
        call(x, "insert(2, 4)");
        due(x, "parting(0)", 2);
        due(x, "back(0)", 2);
        heights(x, 9, 2);
        call(x, "clear()");
        due(x, "keep(0)", 0);
        call(x, "insert(0, 5)");
        due(x, "back(0)", 0);
        heights(x);
    }

    private void keepTwoImages() {
        HistogramStairs x = of(1);
        due(x, "keep(0)", 1);
        due(x, "back(1)", STATE);
        call(x, "insert(1, 2)");
        due(x, "keep(1)", 2);
        due(x, "back(0)", 1);
        heights(x, 1);
        due(x, "back(1)", 2);
        heights(x, 1, 2);
        due(x, "keep(2)", BAD);
        due(x, "keep(-1)", BAD);
        HistogramStairs second = of(1);
        due(second, "keep(1)", 1);
        due(second, "back(0)", STATE);
    }

    private void keepReturns() {
        due(of(), "keep(0)", 0);
        due(of(), "keep(1)", 0);
        due(of(7), "keep(0)", 1);
        due(flat(40, 7), "keep(1)", 40);
    }

    private void keepBad() {
        unmoved(HistogramStairs::new, BAD, with("keep(#)", -1, 2, LEAST, MOST));
        unmoved(() -> of(3, 1, 2), BAD, with("keep(#)", -1, 2, LEAST, MOST));
    }

    // ---- promise 23

    private void back() {
        says(23, "Makes the histogram of an image the histogram; the image stays.", this::backImageStays);
        says(23, "This is a change.", this::backIsChange);
        says(23, "Returns n then", this::backReturns);
        says(23, "BAD if there is no such image", this::backBad);
        says(23, "STATE if it keeps nothing", this::backState);
    }

    private void backImageStays() {
        HistogramStairs x = of(1, 2, 3);
        call(x, "keep(1)");
        call(x, "clear()");
        due(x, "back(1)", 3);
        heights(x, 1, 2, 3);
        call(x, "set(0, 9)");
        call(x, "insert(3, 9)");
        due(x, "back(1)", 3);
        heights(x, 1, 2, 3);
        due(x, "back(1)", 3);
        due(x, "parting(1)", NONE);
        HistogramStairs wide = stepping(40, 5, 1);
        call(wide, "keep(0)");
        call(wide, "raise(0, 39, -50)");
        due(wide, "back(0)", 40);
        due(wide, "column(0, 0)", 5);
        due(wide, "column(39, 0)", 44);
    }

    private HistogramStairs kept() {
        HistogramStairs x = of(1, 2, 3);
        call(x, "keep(0)");
        call(x, "remove(0)");
        call(x, "keep(1)");
        return x;
    }

    private void backIsChange() {
        isChange(this::kept, "back(0)");
        isChange(this::kept, "back(1)");
        HistogramStairs x = kept();
        for (int i = 0; i < 9; i++) {
            call(x, "back(0)");
        }
        due(x, "told(11)", 8);
    }

    private void backReturns() {
        due(kept(), "back(0)", 3);
        due(kept(), "back(1)", 2);
        HistogramStairs x = of();
        call(x, "keep(0)");
        call(x, "insert(0, 1)");
        due(x, "back(0)", 0);
        HistogramStairs wide = flat(40, 1);
        call(wide, "keep(0)");
        call(wide, "clear()");
        due(wide, "back(0)", 40);
        due(wide, "insert(0, 1)", FULL);
    }

    private void backBad() {
        unmoved(this::kept, BAD, with("back(#)", -1, 2, LEAST, MOST));
        unmoved(HistogramStairs::new, BAD, with("back(#)", -1, 2, LEAST, MOST));
    }

    private void backState() {
        unmoved(() -> of(1, 2), STATE, "back(0)", "back(1)");
        HistogramStairs x = of();
        call(x, "keep(0)");
        due(x, "back(1)", STATE);
        due(x, "told(11)", 0);
        // A histogram without columns is something, too.
        due(x, "back(0)", 0);
        due(x, "told(11)", 1);
    }

    // ---- promise 24

    private void parting() {
        says(24, "Returns the lowest column whose height is different", this::partingHeights);
        says(24, "or which only one of them has", this::partingOnlyOne);
        says(24, "NONE if there is none", this::partingNone);
        says(24, "BAD if there is no such image", this::partingBad);
        says(24, "STATE if it keeps nothing", this::partingState);
    }

    private void partingHeights() {
        HistogramStairs x = of(1, 2, 3);
        call(x, "keep(0)");
        call(x, "set(2, 9)");
        due(x, "parting(0)", 2);
        call(x, "set(1, 9)");
        due(x, "parting(0)", 1);
        call(x, "insert(3, 9)");
        due(x, "parting(0)", 1);
        call(x, "set(0, 0)");
        due(x, "parting(0)", 0);
        call(x, "clear()");
        call(x, "insert(0, 2)");
        due(x, "parting(0)", 0);
        HistogramStairs wide = flat(40, 1);
        call(wide, "keep(1)");
        call(wide, "set(39, 2)");
        due(wide, "parting(1)", 39);
    }

    private void partingOnlyOne() {
        HistogramStairs x = of(1, 2);
        call(x, "keep(0)");
        call(x, "insert(2, 0)");
        due(x, "parting(0)", 2);
        call(x, "insert(3, 0)");
        due(x, "parting(0)", 2);
        call(x, "keep(1)");
        call(x, "back(0)");
        due(x, "parting(1)", 2);
        call(x, "remove(1)");
        due(x, "parting(0)", 1);
        call(x, "clear()");
        due(x, "parting(0)", 0);
        HistogramStairs wide = flat(40, 0);
        call(wide, "keep(0)");
        call(wide, "remove(39)");
        due(wide, "parting(0)", 39);
    }

    private void partingNone() {
        HistogramStairs x = of();
        call(x, "keep(0)");
        due(x, "parting(0)", NONE);
        call(x, "insert(0, 4)");
        call(x, "keep(0)");
        due(x, "parting(0)", NONE);
        call(x, "set(0, 5)");
        call(x, "undo()");
        due(x, "parting(0)", NONE);
        HistogramStairs wide = flat(40, 50);
        call(wide, "keep(1)");
        due(wide, "parting(1)", NONE);
        // What has stood behind the last column is not compared.
        HistogramStairs shorter = of(1, 2);
        call(shorter, "remove(1)");
        call(shorter, "keep(0)");
        call(shorter, "insert(1, 7)");
        call(shorter, "remove(1)");
        due(shorter, "parting(0)", NONE);
    }

    private void partingBad() {
        unmoved(this::kept, BAD, with("parting(#)", -1, 2, LEAST, MOST));
        unmoved(HistogramStairs::new, BAD, with("parting(#)", -1, 2, LEAST, MOST));
    }

    private void partingState() {
        unmoved(() -> of(1, 2), STATE, "parting(0)", "parting(1)");
        unmoved(HistogramStairs::new, STATE, "parting(0)", "parting(1)");
        HistogramStairs x = of(1);
        call(x, "keep(1)");
        due(x, "parting(0)", STATE);
        due(x, "parting(1)", NONE);
    }
}
