/** Promises 1 to 10: the sentences that name a boundary case, each with a test of its own. */
public final class ChangesEdgesTest extends Sentences {
    public static void main(String[] args) {
        new ChangesEdgesTest().run();
    }

    @Override
    void tests() {
        newObject();
        insert();
        remove();
        set();
        raise();
        reverse();
        sort();
        freeze();
        clear();
        undo();
    }

    // ---- promise 1

    private void newObject() {
        says(1, "Creates a workshop with a histogram without columns", this::newWithoutColumns);
        says(1, "the images keep nothing", this::newImages);
        says(1, "nothing can be undone", this::newHistory);
    }

    private void newWithoutColumns() {
        HistogramStairs x = new HistogramStairs();
        HistogramStairs other = of(1, 2);
        due(x, "told(0)", 0);
        due(x, "column(0, 0)", BAD);
        heights(other, 1, 2);
        heights(new HistogramStairs());
    }

    private void newImages() {
        unmoved(HistogramStairs::new, STATE, "back(0)", "back(1)", "parting(0)", "parting(1)");
        HistogramStairs other = of(1);
        call(other, "keep(0)");
        due(new HistogramStairs(), "back(0)", STATE);
    }

    private void newHistory() {
        due(new HistogramStairs(), "told(11)", 0);
        unmoved(HistogramStairs::new, STATE, "undo()");
    }

    // ---- promise 2

    private void insert() {
        says(2, "This is a change.", this::insertIsChange);
        says(2, "its place, 0 to N; the columns from there on get the next number", this::insertPlaces);
        says(2, "its height, 0 to 50", this::insertHeights);
        says(2, "Returns n then", this::insertReturnsN);
        says(2, "BAD if an argument is out of range", this::insertBad);
        says(2, "FULL if there are 40 columns", this::insertFull);
    }

    private void insertIsChange() {
        isChange(HistogramStairs::new, "insert(0, 0)");
        isChange(() -> of(4, 5), "insert(1, 9)");
        HistogramStairs x = flat(39, 7);
        due(x, "insert(0, 7)", 40);
        due(x, "undo()", 7);
        due(x, "told(0)", 39);
    }

    private void insertPlaces() {
        HistogramStairs x = of(5, 6, 7);
        due(x, "insert(0, 1)", 4);
        heights(x, 1, 5, 6, 7);
        due(x, "insert(4, 2)", 5);
        heights(x, 1, 5, 6, 7, 2);
        due(x, "insert(2, 3)", 6);
        heights(x, 1, 5, 3, 6, 7, 2);
        HistogramStairs rising = stepping(39, 1, 1);
        due(rising, "insert(0, 50)", 40);
        due(rising, "column(0, 0)", 50);
        due(rising, "column(1, 0)", 1);
        due(rising, "column(39, 0)", 39);
    }

    private void insertHeights() {
        HistogramStairs x = new HistogramStairs();
        due(x, "insert(0, 0)", 1);
        due(x, "insert(0, 50)", 2);
        heights(x, 50, 0);
        due(x, "insert(0, 51)", BAD);
        due(x, "insert(0, -1)", BAD);
        heights(x, 50, 0);
    }

    private void insertReturnsN() {
        HistogramStairs x = new HistogramStairs();
        for (int n = 1; n <= 40; n++) {
            due(x, "insert(" + n / 2 + ", 3)", n);
            due(x, "told(0)", n);
        }
        call(x, "remove(0)");
        due(x, "insert(39, 3)", 40);
    }

    private void insertBad() {
        unmoved(HistogramStairs::new, BAD, with("insert(#, 1)", -1, 1, LEAST, MOST));
        unmoved(() -> of(1, 2), BAD, with("insert(#, 1)", -1, 3, LEAST, MOST));
        unmoved(() -> of(1, 2), BAD, with("insert(1, #)", -1, 51, LEAST, MOST));
        unmoved(() -> of(1, 2), BAD, "insert(3, 51)", "insert(-1, -1)");
        unmoved(() -> flat(40, 2), BAD, with("insert(#, 1)", -1, 41, LEAST, MOST));
        unmoved(() -> flat(40, 2), BAD, with("insert(0, #)", -1, 51, LEAST, MOST));
    }

    private void insertFull() {
        unmoved(() -> flat(40, 2), FULL, "insert(0, 0)", "insert(20, 25)", "insert(39, 1)", "insert(40, 50)");
        HistogramStairs x = flat(39, 2);
        due(x, "insert(39, 5)", 40);
        due(x, "insert(40, 6)", FULL);
        due(x, "remove(0)", 2);
        due(x, "insert(39, 6)", 40);
        due(x, "insert(0, 6)", FULL);
        due(x, "undo()", 7);
        due(x, "insert(0, 7)", 40);
        due(x, "clear()", 40);
        due(x, "insert(0, 8)", 1);
        due(x, "undo()", 7);
        due(x, "undo()", 6);
        due(x, "insert(0, 9)", FULL);
    }

    // ---- promise 3

    private void remove() {
        says(3, "the columns behind it get the number before", this::removePlaces);
        says(3, "This is a change.", this::removeIsChange);
        says(3, "Returns its height", this::removeReturns);
        says(3, "BAD if there is no such column", this::removeBad);
    }

    private void removePlaces() {
        HistogramStairs x = of(1, 2, 3, 4);
        due(x, "remove(1)", 2);
        heights(x, 1, 3, 4);
        due(x, "remove(2)", 4);
        heights(x, 1, 3);
        due(x, "remove(0)", 1);
        heights(x, 3);
        due(x, "remove(0)", 3);
        heights(x);
        HistogramStairs rising = stepping(40, 0, 1);
        due(rising, "remove(0)", 0);
        due(rising, "column(0, 0)", 1);
        due(rising, "column(38, 0)", 39);
        due(rising, "column(39, 0)", BAD);
    }

    private void removeIsChange() {
        isChange(() -> of(7), "remove(0)");
        isChange(() -> of(7, 8, 9), "remove(1)");
        HistogramStairs x = stepping(40, 0, 1);
        call(x, "remove(0)");
        due(x, "undo()", 7);
        due(x, "column(0, 0)", 0);
        due(x, "column(39, 0)", 39);
    }

    private void removeReturns() {
        due(of(0, 50), "remove(0)", 0);
        due(of(0, 50), "remove(1)", 50);
    }

    private void removeBad() {
        unmoved(HistogramStairs::new, BAD, with("remove(#)", 0, -1, LEAST, MOST));
        unmoved(() -> of(1, 2), BAD, with("remove(#)", -1, 2, LEAST, MOST));
        unmoved(() -> flat(40, 2), BAD, with("remove(#)", -1, 40));
        HistogramStairs x = of(1);
        due(x, "remove(0)", 1);
        due(x, "remove(0)", BAD);
    }

    // ---- promise 4

    private void set() {
        says(4, "This is a change.", this::setIsChange);
        says(4, "its new height, 0 to 50", this::setHeights);
        says(4, "Returns the previous height", this::setReturns);
        says(4, "BAD if there is no such column or height is out of range", this::setBad);
    }

    private void setIsChange() {
        isChange(() -> of(4, 5), "set(1, 9)");
        isChange(() -> of(4, 5), "set(1, 5)");
    }

    private void setHeights() {
        HistogramStairs x = of(7, 8, 9);
        due(x, "set(0, 0)", 7);
        due(x, "set(2, 50)", 9);
        heights(x, 0, 8, 50);
        due(x, "set(0, -1)", BAD);
        due(x, "set(2, 51)", BAD);
        heights(x, 0, 8, 50);
    }

    private void setReturns() {
        HistogramStairs x = of(0, 50);
        due(x, "set(0, 50)", 0);
        due(x, "set(1, 0)", 50);
        due(x, "set(0, 50)", 50);
        due(x, "set(1, 0)", 0);
    }

    private void setBad() {
        unmoved(HistogramStairs::new, BAD, with("set(#, 1)", 0, -1, LEAST, MOST));
        unmoved(() -> of(1, 2), BAD, with("set(#, 1)", -1, 2, LEAST, MOST));
        unmoved(() -> of(1, 2), BAD, with("set(1, #)", -1, 51, LEAST, MOST));
        unmoved(() -> of(1, 2), BAD, "set(2, 51)");
        unmoved(() -> flat(40, 2), BAD, "set(40, 1)");
        due(flat(40, 2), "set(39, 1)", 2);
    }

    // ---- promise 5

    private void raise() {
        says(5, "a height that would be less than 0 becomes 0", this::raiseBelow0);
        says(5, "one that would be greater than 50 becomes 50", this::raiseAbove50);
        says(5, "This is a change.", this::raiseIsChange);
        says(5, "`b`: the last column, not less than a", this::raiseOneColumn);
        says(5, "by how much, -50 to 50", this::raiseBy);
        says(5, "Returns how many columns get another height", this::raiseReturns);
        says(5, "BAD if there is no such column, b is less than a, or by is out of range", this::raiseBad);
    }

    private void raiseBelow0() {
        HistogramStairs x = of(2, 3, 4);
        due(x, "raise(0, 2, -3)", 3);
        heights(x, 0, 0, 1);
        due(x, "raise(0, 2, -50)", 1);
        heights(x, 0, 0, 0);
    }

    private void raiseAbove50() {
        HistogramStairs x = of(46, 47, 48);
        due(x, "raise(0, 2, 3)", 3);
        heights(x, 49, 50, 50);
        due(x, "raise(0, 2, 50)", 1);
        heights(x, 50, 50, 50);
    }

    private void raiseIsChange() {
        isChange(() -> of(4, 5, 6), "raise(0, 1, 7)");
        isChange(() -> of(4, 5, 6), "raise(1, 2, 0)");
        isChange(() -> of(0, 50), "raise(0, 0, -1)");
    }

    private void raiseOneColumn() {
        HistogramStairs x = of(4, 5, 6);
        due(x, "raise(1, 1, 2)", 1);
        heights(x, 4, 7, 6);
        due(x, "raise(2, 2, 1)", 1);
        due(x, "raise(0, 0, -1)", 1);
        heights(x, 3, 7, 7);
        due(x, "raise(1, 0, 2)", BAD);
        due(x, "raise(2, 1, 2)", BAD);
        heights(x, 3, 7, 7);
        due(flat(40, 1), "raise(0, 39, 1)", 40);
    }

    private void raiseBy() {
        HistogramStairs x = of(0, 1);
        due(x, "raise(0, 1, 50)", 2);
        heights(x, 50, 50);
        due(x, "raise(0, 0, -50)", 1);
        heights(x, 0, 50);
        due(x, "raise(0, 0, 51)", BAD);
        due(x, "raise(1, 1, -51)", BAD);
        heights(x, 0, 50);
    }

    private void raiseReturns() {
        due(of(1, 2, 3), "raise(0, 2, 0)", 0);
        due(of(50, 50), "raise(0, 1, 1)", 0);
        due(of(0, 0), "raise(0, 1, -1)", 0);
        due(of(0, 50, 25), "raise(0, 2, 1)", 2);
        due(of(0, 50, 25), "raise(0, 2, -1)", 2);
        due(of(1, 49, 25), "raise(0, 1, 1)", 2);
    }

    private void raiseBad() {
        unmoved(HistogramStairs::new, BAD, "raise(0, 0, 1)", "raise(-1, 0, 1)", "raise(0, -1, 1)");
        unmoved(() -> of(1, 2, 3), BAD, with("raise(#, 1, 1)", -1, 2, LEAST, MOST));
        unmoved(() -> of(1, 2, 3), BAD, with("raise(1, #, 1)", -1, 0, 3, LEAST, MOST));
        unmoved(() -> of(1, 2, 3), BAD, with("raise(0, 2, #)", -51, 51, LEAST, MOST));
        unmoved(() -> of(1, 2, 3), BAD, "raise(3, 3, 1)", "raise(-1, -1, 1)", "raise(2, 0, 1)");
        unmoved(() -> flat(40, 2), BAD, "raise(0, 40, 1)", "raise(40, 40, 1)");
    }

    // ---- promise 6

    private void reverse() {
        says(6, "Reverses the columns of a range.", this::reverseRange);
        says(6, "This is a change.", this::reverseIsChange);
        says(6, "`b`: the last column, not less than a", this::reverseOneColumn);
        says(6, "Returns how many columns get another height", this::reverseReturns);
        says(6, "BAD if there is no such column, or b is less than a", this::reverseBad);
    }

    private void reverseRange() {
        HistogramStairs x = of(1, 2, 3, 4, 5);
        call(x, "reverse(1, 3)");
        heights(x, 1, 4, 3, 2, 5);
        call(x, "reverse(3, 4)");
        heights(x, 1, 4, 3, 5, 2);
        call(x, "reverse(0, 3)");
        heights(x, 5, 3, 4, 1, 2);
        call(x, "reverse(0, 4)");
        heights(x, 2, 1, 4, 3, 5);
        HistogramStairs rising = stepping(40, 0, 1);
        due(rising, "reverse(0, 39)", 40);
        each(rising, "column(#, 0)", 39, 38, 37);
        due(rising, "column(39, 0)", 0);
    }

    private void reverseIsChange() {
        isChange(() -> of(4, 5, 6), "reverse(0, 1)");
        isChange(() -> of(4, 5, 4), "reverse(0, 2)");
        isChange(() -> of(4, 5, 6), "reverse(2, 2)");
    }

    private void reverseOneColumn() {
        HistogramStairs x = of(4, 5, 6);
        due(x, "reverse(0, 0)", 0);
        due(x, "reverse(2, 2)", 0);
        due(x, "reverse(1, 0)", BAD);
        due(x, "reverse(2, 0)", BAD);
        heights(x, 4, 5, 6);
    }

    private void reverseReturns() {
        due(of(1, 2, 3), "reverse(0, 2)", 2);
        due(of(1, 2, 3, 4), "reverse(0, 3)", 4);
        due(of(1, 2, 1), "reverse(0, 2)", 0);
        due(of(1, 1, 2, 1), "reverse(0, 3)", 2);
        due(of(7, 7), "reverse(0, 1)", 0);
        due(of(7), "reverse(0, 0)", 0);
    }

    private void reverseBad() {
        unmoved(HistogramStairs::new, BAD, "reverse(0, 0)", "reverse(-1, 0)", "reverse(0, -1)");
        unmoved(() -> of(1, 2, 3), BAD, with("reverse(#, 1)", -1, 2, LEAST, MOST));
        unmoved(() -> of(1, 2, 3), BAD, with("reverse(1, #)", -1, 0, 3, LEAST, MOST));
        unmoved(() -> of(1, 2, 3), BAD, "reverse(3, 3)", "reverse(-1, -1)", "reverse(2, 0)");
        unmoved(() -> flat(40, 2), BAD, "reverse(0, 40)", "reverse(40, 40)");
    }

    // ---- promise 7

    private void sort() {
        says(7, "Sorts the columns of a range by their heights.", this::sortRange);
        says(7, "This is a change.", this::sortIsChange);
        says(7, "`b`: the last column, not less than a", this::sortOneColumn);
        says(7, "1 with the least height first, 0 with the greatest first", this::sortBothWays);
        says(7, "Returns how many pairs of columns of the range were in the wrong order", this::sortReturns);
        says(7, "with different heights, the one that comes first now behind the other one", this::sortEqualHeights);
        says(7, "BAD if there is no such column, b is less than a, or up is out of range", this::sortBad);
    }

    private void sortRange() {
        HistogramStairs x = of(9, 2, 1, 0);
        due(x, "sort(1, 2, 1)", 1);
        heights(x, 9, 1, 2, 0);
        due(x, "sort(2, 3, 1)", 1);
        heights(x, 9, 1, 0, 2);
        due(x, "sort(0, 1, 1)", 1);
        heights(x, 1, 9, 0, 2);
        due(x, "sort(0, 3, 0)", 1 + 2);
        heights(x, 9, 2, 1, 0);
    }

    private void sortIsChange() {
        isChange(() -> of(4, 6, 5), "sort(0, 2, 1)");
        isChange(() -> of(4, 5, 6), "sort(0, 2, 1)");
        isChange(() -> of(4, 5, 6), "sort(1, 1, 0)");
    }

    private void sortOneColumn() {
        HistogramStairs x = of(4, 6, 5);
        due(x, "sort(0, 0, 1)", 0);
        due(x, "sort(2, 2, 0)", 0);
        due(x, "sort(1, 0, 1)", BAD);
        due(x, "sort(2, 1, 1)", BAD);
        heights(x, 4, 6, 5);
    }

    private void sortBothWays() {
        HistogramStairs x = of(2, 3, 1);
        due(x, "sort(0, 2, 1)", 2);
        heights(x, 1, 2, 3);
        due(x, "sort(0, 2, 0)", 3);
        heights(x, 3, 2, 1);
        due(x, "sort(0, 2, 2)", BAD);
        due(x, "sort(0, 2, -1)", BAD);
        heights(x, 3, 2, 1);
    }

    private void sortReturns() {
        due(of(1, 2, 3), "sort(0, 2, 1)", 0);
        due(of(3, 2, 1), "sort(0, 2, 0)", 0);
        due(of(50, 0), "sort(0, 1, 1)", 1);
        due(of(9, 3, 1, 2, 0), "sort(1, 3, 1)", 2);
        due(stepping(40, 39, -1), "sort(0, 39, 1)", 780);
        due(stepping(40, 0, 1), "sort(0, 39, 0)", 780);
    }

    private void sortEqualHeights() {
        due(of(7, 7, 7), "sort(0, 2, 1)", 0);
        due(of(7, 7, 7), "sort(0, 2, 0)", 0);
        due(of(2, 2, 1), "sort(0, 2, 1)", 2);
        due(of(1, 2, 2), "sort(0, 2, 0)", 2);
        due(of(2, 1, 2, 1), "sort(0, 3, 1)", 3);
        due(of(2, 1, 2, 1), "sort(0, 3, 0)", 1);
    }

    private void sortBad() {
        unmoved(HistogramStairs::new, BAD, "sort(0, 0, 1)", "sort(-1, 0, 1)", "sort(0, -1, 0)");
        unmoved(() -> of(3, 1, 2), BAD, with("sort(#, 1, 1)", -1, 2, LEAST, MOST));
        unmoved(() -> of(3, 1, 2), BAD, with("sort(1, #, 1)", -1, 0, 3, LEAST, MOST));
        unmoved(() -> of(3, 1, 2), BAD, with("sort(0, 2, #)", -1, 2, LEAST, MOST));
        unmoved(() -> of(3, 1, 2), BAD, "sort(3, 3, 1)", "sort(-1, -1, 1)", "sort(2, 0, 1)");
        unmoved(() -> flat(40, 2), BAD, "sort(0, 40, 1)", "sort(40, 40, 0)");
    }

    // ---- promise 8

    private void freeze() {
        says(8, "Fills all pools: the height of each column increases by its depth.", this::freezeFills);
        says(8, "This is a change.", this::freezeIsChange);
        says(8, "Returns the water that there was.", this::freezeReturns);
    }

    private void freezeFills() {
        HistogramStairs x = of(3, 0, 1, 3, 0, 2, 0);
        call(x, "freeze()");
        heights(x, 3, 3, 3, 3, 2, 2, 0);
        HistogramStairs dry = of(1, 2, 2, 0);
        call(dry, "freeze()");
        heights(dry, 1, 2, 2, 0);
        HistogramStairs wide = basin(50, 50);
        call(wide, "freeze()");
        due(wide, "told(1)", 2000);
        HistogramStairs empty = new HistogramStairs();
        call(empty, "freeze()");
        heights(empty);
    }

    private void freezeIsChange() {
        isChange(() -> of(3, 0, 3), "freeze()");
        isChange(() -> of(3, 3), "freeze()");
        isChange(HistogramStairs::new, "freeze()");
    }

    private void freezeReturns() {
        HistogramStairs x = of(3, 0, 1, 3, 0, 2, 0);
        due(x, "freeze()", 3 + 2 + 2);
        due(x, "freeze()", 0);
        due(new HistogramStairs(), "freeze()", 0);
        due(of(5), "freeze()", 0);
        due(basin(50, 50), "freeze()", 1900);
    }

    // ---- promise 9

    private void clear() {
        says(9, "Removes all columns.", this::clearRemoves);
        says(9, "This is a change.", this::clearIsChange);
        says(9, "Returns how many there were.", this::clearReturns);
    }

    private void clearRemoves() {
        HistogramStairs x = of(1, 2, 3);
        call(x, "clear()");
        heights(x);
        due(x, "column(0, 0)", BAD);
        due(x, "insert(0, 4)", 1);
        heights(x, 4);
    }

    private void clearIsChange() {
        isChange(() -> of(1, 2, 3), "clear()");
        isChange(HistogramStairs::new, "clear()");
        HistogramStairs x = stepping(40, 0, 1);
        call(x, "clear()");
        due(x, "undo()", 7);
        due(x, "told(0)", 40);
        due(x, "column(39, 0)", 39);
    }

    private void clearReturns() {
        due(new HistogramStairs(), "clear()", 0);
        due(of(0), "clear()", 1);
        HistogramStairs x = flat(40, 1);
        due(x, "clear()", 40);
        due(x, "clear()", 0);
    }

    // ---- promise 10

    private void undo() {
        says(10, "Undoes a change, as described above.", this::undoAfterEachChange);
        says(10, "Returns how many changes can still be undone", this::undoReturns);
        says(10, "STATE if there is none", this::undoState);
    }

    private void undoAfterEachChange() {
        HistogramStairs x = of(2, 0, 1);
        call(x, "keep(0)");
        String[] changes = {"insert(3, 5)", "remove(0)", "set(0, 4)", "raise(0, 2, 1)", "clear()", "back(0)",
            "freeze()"};
        String[] before = new String[changes.length];
        for (int i = 0; i < changes.length; i++) {
            before[i] = heightsOf(x);
            call(x, changes[i]);
        }
        for (int i = changes.length - 1; i >= 0; i--) {
            due(x, "undo()", i + 1);
            yes("before " + changes[i] + " there was " + before[i], heightsOf(x).equals(before[i]));
        }
    }

    private void undoReturns() {
        HistogramStairs x = of(1);
        due(x, "undo()", 0);
        x = flat(8, 1);
        for (int left = 7; left >= 0; left--) {
            due(x, "undo()", left);
            due(x, "told(11)", left);
        }
        x = flat(40, 1);
        due(x, "undo()", 7);
        call(x, "clear()");
        due(x, "undo()", 7);
    }

    private void undoState() {
        unmoved(HistogramStairs::new, STATE, "undo()");
        HistogramStairs x = of(1);
        due(x, "undo()", 0);
        due(x, "undo()", STATE);
        due(x, "undo()", STATE);
        due(x, "told(11)", 0);
        x = flat(9, 1);
        for (int i = 0; i < 8; i++) {
            call(x, "undo()");
        }
        due(x, "undo()", STATE);
        heights(x, 1);
    }
}
