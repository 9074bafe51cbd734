/** Each promise of the document by its number: ordinary calls, the edges that it names, and wrong arguments. */
public final class PromisesTest {
    private static final int BAD = HistogramStairs.BAD;
    private static final int STATE = HistogramStairs.STATE;
    private static final int FULL = HistogramStairs.FULL;
    private static final int NONE = HistogramStairs.NONE;
    private static final int LEAST = Integer.MIN_VALUE;
    private static final int MOST = Integer.MAX_VALUE;

    private static final Check CHECK = new Check("PromisesTest");
    private static int promise;

    public static void main(String[] args) {
        promise1NewObject();
        promise2Insert();
        promise3Remove();
        promise4Set();
        promise5Raise();
        promise6Reverse();
        promise7Sort();
        promise8Freeze();
        promise9Clear();
        promise10Undo();
        promise11Told();
        promise11Strokes();
        columnsThatAreGone();
        promise12ColumnNeighbours();
        promise12ColumnTree();
        promise13Stair();
        promise14Range();
        promise14LargestRectangle();
        promise15Rectangle();
        promise16Container();
        promise17Pool();
        promise18Drained();
        promise19Dam();
        promise20SumOfMinima();
        promise21Ranges();
        promise22Keep();
        promise23Back();
        promise24Parting();
        CHECK.end();
    }

    private static void promise1NewObject() {
        promise = 1;
        HistogramStairs x = new HistogramStairs();
        due("told(0)", x.told(0), 0);
        due("told(11)", x.told(11), 0);
        due("undo()", x.undo(), STATE);
        due("back(0)", x.back(0), STATE);
        due("back(1)", x.back(1), STATE);
        due("parting(0)", x.parting(0), STATE);
        due("parting(1)", x.parting(1), STATE);
        HistogramStairs other = new HistogramStairs();
        other.insert(0, 5);
        due("told(0) beside another object", x.told(0), 0);
    }

    private static void promise2Insert() {
        promise = 2;
        HistogramStairs x = new HistogramStairs();
        due("insert(0, 0)", x.insert(0, 0), 1);
        due("insert(1, 50)", x.insert(1, 50), 2);
        due("insert(0, 7)", x.insert(0, 7), 3);
        due("insert(1, 8)", x.insert(1, 8), 4);
        columns(x, 7, 8, 0, 50);
        for (int at : new int[] {-1, 5, LEAST, MOST}) {
            due("insert(" + at + ", 1)", x.insert(at, 1), BAD);
        }
        for (int height : new int[] {-1, 51, LEAST, MOST}) {
            due("insert(0, " + height + ")", x.insert(0, height), BAD);
        }
        unchanged(x, 4, 7, 8, 0, 50);
        for (int n = 5; n <= 40; n++) {
            due("insert(4, 3)", x.insert(4, 3), n);
        }
        due("insert(0, 1) at 40", x.insert(0, 1), FULL);
        due("insert(40, 1) at 40", x.insert(40, 1), FULL);
        due("insert(41, 1) at 40: BAD comes before FULL", x.insert(41, 1), BAD);
        due("insert(0, 51) at 40: BAD comes before FULL", x.insert(0, 51), BAD);
        due("told(0)", x.told(0), 40);
        due("column(39, 0)", x.column(39, 0), 3);
        due("undo() undoes the last insert that stood", x.undo(), 7);
        due("told(0)", x.told(0), 39);
    }

    private static void promise3Remove() {
        promise = 3;
        HistogramStairs x = of(4, 0, 50, 9);
        due("remove(1)", x.remove(1), 0);
        columns(x, 4, 50, 9);
        due("remove(2)", x.remove(2), 9);
        due("remove(0)", x.remove(0), 4);
        columns(x, 50);
        for (int i : new int[] {-1, 1, LEAST, MOST}) {
            due("remove(" + i + ")", x.remove(i), BAD);
        }
        unchanged(x, 7, 50);
        due("remove(0)", x.remove(0), 50);
        due("remove(0)", x.remove(0), BAD);
        due("undo()", x.undo(), 7);
        columns(x, 50);
        HistogramStairs full = flat(40, 3);
        due("remove(39)", full.remove(39), 3);
        due("remove(39)", full.remove(39), BAD);
        due("told(0)", full.told(0), 39);
    }

    private static void promise4Set() {
        promise = 4;
        HistogramStairs x = of(4, 6);
        due("set(0, 50)", x.set(0, 50), 4);
        due("set(1, 0)", x.set(1, 0), 6);
        columns(x, 50, 0);
        due("set(1, 0), which changes no height", x.set(1, 0), 0);
        due("told(11)", x.told(11), 5);
        due("set(2, 1)", x.set(2, 1), BAD);
        due("set(-1, 1)", x.set(-1, 1), BAD);
        due("set(0, -1)", x.set(0, -1), BAD);
        due("set(0, 51)", x.set(0, 51), BAD);
        due("set(MOST, MOST)", x.set(MOST, MOST), BAD);
        due("set(LEAST, 1)", x.set(LEAST, 1), BAD);
        unchanged(x, 5, 50, 0);
        due("undo()", x.undo(), 4);
        due("undo()", x.undo(), 3);
        columns(x, 50, 6);
    }

    private static void promise5Raise() {
        promise = 5;
        HistogramStairs x = of(0, 1, 25, 49, 50);
        due("raise(1, 3, 2)", x.raise(1, 3, 2), 3);
        columns(x, 0, 3, 27, 50, 50);
        due("raise(0, 4, 1)", x.raise(0, 4, 1), 3);
        columns(x, 1, 4, 28, 50, 50);
        due("raise(0, 2, -4)", x.raise(0, 2, -4), 3);
        columns(x, 0, 0, 24, 50, 50);
        due("raise(0, 1, -50)", x.raise(0, 1, -50), 0);
        due("raise(4, 4, 0)", x.raise(4, 4, 0), 0);
        due("told(11)", x.told(11), 8);
        due("raise(0, 4, 50)", x.raise(0, 4, 50), 3);
        columns(x, 50, 50, 50, 50, 50);
        due("raise(0, 4, -50)", x.raise(0, 4, -50), 5);
        columns(x, 0, 0, 0, 0, 0);
        due("raise(-1, 0, 1)", x.raise(-1, 0, 1), BAD);
        due("raise(0, 5, 1)", x.raise(0, 5, 1), BAD);
        due("raise(5, 5, 1)", x.raise(5, 5, 1), BAD);
        due("raise(3, 2, 1)", x.raise(3, 2, 1), BAD);
        due("raise(0, 0, 51)", x.raise(0, 0, 51), BAD);
        due("raise(0, 0, -51)", x.raise(0, 0, -51), BAD);
        due("raise(0, 0, MOST)", x.raise(0, 0, MOST), BAD);
        due("raise(0, 0, LEAST)", x.raise(0, 0, LEAST), BAD);
        due("raise(LEAST, MOST, 1)", x.raise(LEAST, MOST, 1), BAD);
        unchanged(x, 8, 0, 0, 0, 0, 0);
        due("undo()", x.undo(), 7);
        columns(x, 50, 50, 50, 50, 50);
    }

    private static void promise6Reverse() {
        promise = 6;
        HistogramStairs x = of(1, 2, 3, 2, 5);
        due("reverse(1, 3), the same from both sides", x.reverse(1, 3), 0);
        due("told(11)", x.told(11), 6);
        due("reverse(0, 4)", x.reverse(0, 4), 2);
        columns(x, 5, 2, 3, 2, 1);
        due("reverse(1, 2)", x.reverse(1, 2), 2);
        columns(x, 5, 3, 2, 2, 1);
        due("reverse(0, 3)", x.reverse(0, 3), 4);
        columns(x, 2, 2, 3, 5, 1);
        due("reverse(2, 2)", x.reverse(2, 2), 0);
        due("reverse(2, 1)", x.reverse(2, 1), BAD);
        due("reverse(-1, 1)", x.reverse(-1, 1), BAD);
        due("reverse(0, 5)", x.reverse(0, 5), BAD);
        due("reverse(5, 5)", x.reverse(5, 5), BAD);
        due("reverse(LEAST, MOST)", x.reverse(LEAST, MOST), BAD);
        unchanged(x, 8, 2, 2, 3, 5, 1);
        due("undo()", x.undo(), 7);
        due("undo()", x.undo(), 6);
        columns(x, 5, 3, 2, 2, 1);
    }

    private static void promise7Sort() {
        promise = 7;
        HistogramStairs x = of(9, 3, 1, 2, 3, 0);
        due("sort(1, 4, 1)", x.sort(1, 4, 1), 2);
        columns(x, 9, 1, 2, 3, 3, 0);
        due("sort(1, 4, 0)", x.sort(1, 4, 0), 5);
        columns(x, 9, 3, 3, 2, 1, 0);
        due("sort(0, 5, 0), all in order", x.sort(0, 5, 0), 0);
        due("told(11)", x.told(11), 8);
        due("sort(0, 5, 1)", x.sort(0, 5, 1), 14);
        columns(x, 0, 1, 2, 3, 3, 9);
        due("sort(2, 2, 0)", x.sort(2, 2, 0), 0);
        due("sort(0, 5, 2)", x.sort(0, 5, 2), BAD);
        due("sort(0, 5, -1)", x.sort(0, 5, -1), BAD);
        due("sort(3, 2, 1)", x.sort(3, 2, 1), BAD);
        due("sort(-1, 2, 1)", x.sort(-1, 2, 1), BAD);
        due("sort(0, 6, 1)", x.sort(0, 6, 1), BAD);
        due("sort(LEAST, MOST, 1)", x.sort(LEAST, MOST, 1), BAD);
        unchanged(x, 8, 0, 1, 2, 3, 3, 9);
        due("undo()", x.undo(), 7);
        due("undo()", x.undo(), 6);
        columns(x, 9, 3, 3, 2, 1, 0);
    }

    private static void promise8Freeze() {
        promise = 8;
        HistogramStairs x = of(1, 4, 0, 2, 3, 0, 5, 1, 2);
        due("freeze()", x.freeze(), 4 + 2 + 1 + 4 + 1);
        columns(x, 1, 4, 4, 4, 4, 4, 5, 2, 2);
        due("freeze() again", x.freeze(), 0);
        due("told(11)", x.told(11), 8);
        due("undo()", x.undo(), 7);
        due("undo()", x.undo(), 6);
        columns(x, 1, 4, 0, 2, 3, 0, 5, 1, 2);
        HistogramStairs empty = new HistogramStairs();
        due("freeze() without columns", empty.freeze(), 0);
        due("told(11)", empty.told(11), 1);
    }

    private static void promise9Clear() {
        promise = 9;
        HistogramStairs x = of(1, 2, 3);
        due("clear()", x.clear(), 3);
        columns(x);
        due("clear() again", x.clear(), 0);
        due("told(11)", x.told(11), 5);
        due("insert(0, 4)", x.insert(0, 4), 1);
        columns(x, 4);
        due("undo()", x.undo(), 5);
        due("undo()", x.undo(), 4);
        columns(x);
        due("undo()", x.undo(), 3);
        columns(x, 1, 2, 3);
    }

    private static void promise10Undo() {
        promise = 10;
        HistogramStairs x = new HistogramStairs();
        due("undo()", x.undo(), STATE);
        for (int i = 0; i < 12; i++) {
            x.insert(i, i);
            due("told(11)", x.told(11), Math.min(8, i + 1));
        }
        for (int left = 7; left >= 0; left--) {
            due("undo()", x.undo(), left);
            due("told(0)", x.told(0), 4 + left);
            due("told(11)", x.told(11), left);
        }
        due("undo() beyond the eighth", x.undo(), STATE);
        columns(x, 0, 1, 2, 3);
        x.set(0, 9);
        x.undo();
        due("undo() records nothing itself", x.undo(), STATE);
        x.told(3);
        x.dam(5, 0);
        x.drained(1);
        x.keep(0);
        x.range(0, 3, 5);
        due("questions and keep are no changes", x.undo(), STATE);
    }

    private static void promise11Told() {
        promise = 11;
        HistogramStairs empty = new HistogramStairs();
        for (int what = 0; what <= 11; what++) {
            due("told(" + what + ") without columns", empty.told(what), what == 8 ? NONE : 0);
        }
        HistogramStairs x = of(2, 0, 3, 3, 1, 5, 4, 5, 2, 2);
        int[] want = {10, 27, 5, 5, 3, 7, 3, 2, 4, 10, 8, 8};
        for (int what = 0; what < want.length; what++) {
            due("told(" + what + ")", x.told(what), want[what]);
        }
        HistogramStairs rising = of(1, 2);
        due("told(2), the last one the greatest", rising.told(2), 2);
        due("told(5), the last one an owner", rising.told(5), 2);
        HistogramStairs zero = of(0);
        due("told(5) of a column of 0", zero.told(5), 0);
        due("told(6) of a column of 0", zero.told(6), 1);
        due("told(7) of a column of 0", zero.told(7), 1);
        due("told(8) of one column", zero.told(8), 0);
        due("told(8) of equal columns", flat(40, 7).told(8), 39);
        due("told(1) of the greatest histogram", flat(40, 50).told(1), 2000);
        for (int what : new int[] {-1, 12, LEAST, MOST}) {
            due("told(" + what + ")", x.told(what), BAD);
            due("told(" + what + ") without columns", empty.told(what), BAD);
        }
    }

    private static void promise11Strokes() {
        promise = 11;
        strokes(3, 1, 3);
        strokes(6, 4, 2, 2, 1, 2, 1, 4);
        strokes(2, 2, 2, 2);
        strokes(50, 1, 50);
        strokes(50, 2, 50, 50);
        strokes(3, 2, 1, 3, 1);
        strokes(4, 2, 2, 0, 2);
        strokes(9, 3, 1, 5, 1, 5, 1);
        strokes(0, 0, 0, 0);
        due("told(10) of the greatest histogram", flat(40, 50).told(10), 40);
        due("told(9) of the greatest histogram", flat(40, 50).told(9), 50);
        due("told(10) of 40 low columns", flat(40, 6).told(10), 6);
    }

    /** The least number of horizontal strokes, the least number of any strokes, and the heights to be painted. */
    private static void strokes(int horizontal, int all, int... heights) {
        HistogramStairs x = of(heights);
        String row = java.util.Arrays.toString(heights);
        due("told(9) of " + row, x.told(9), horizontal);
        due("told(10) of " + row, x.told(10), all);
    }

    /** What stood behind the last column before it became the last one must not be seen any more. */
    private static void columnsThatAreGone() {
        promise = 3;
        HistogramStairs x = of(1, 4, 2, 0, 3, 9, 9);
        due("told(3)", x.told(3), 2 + 4 + 1);
        x.remove(6);
        x.remove(5);
        int[] want = {5, 10, 4, 4, 1, 4, 2, 2, 3, 7, 4, 8};
        for (int what = 0; what < want.length; what++) {
            due("told(" + what + ") without the last two", x.told(what), want[what]);
        }
        due("drained(2)", x.drained(2), 2);
        due("column(4, 4)", x.column(4, 4), NONE);
        due("column(1, 2)", x.column(1, 2), 2);
        due("column(0, 8)", x.column(0, 8), 3);
        due("container(0)", x.container(0), 9);
        due("dam(1, 1)", x.dam(1, 1), 6);
        due("freeze()", x.freeze(), 4);
        columns(x, 1, 4, 3, 3, 3);
        x.clear();
        due("told(3) without columns", x.told(3), 0);
        due("told(10) without columns", x.told(10), 0);
        due("sumOfMinima() without columns", x.sumOfMinima(), 0);
    }

    private static void promise12ColumnNeighbours() {
        promise = 12;
        due("column(1, 3)", of(5, 1).column(1, 3), 0);
        due("column(0, 4)", of(1, 5).column(0, 4), 1);
        HistogramStairs x = of(3, 5, 3, 1, 3, 3, 4);
        answers(x, 0, 3, 5, 3, 1, 3, 3, 4);
        answers(x, 1, NONE, 0, NONE, NONE, 3, 3, 5);
        answers(x, 2, 3, 2, 3, NONE, NONE, NONE, NONE);
        answers(x, 3, NONE, NONE, 1, 2, 1, 1, 1);
        answers(x, 4, 1, NONE, 6, 4, 6, 6, NONE);
        answers(x, 5, 0, 0, 1, 3, 1, 1, 0);
        answers(x, 8, 3, 1, 3, 7, 3, 3, 1);
        answers(x, 9, 1, 2, 1, 1, 2, 2, 3);
        for (int what : new int[] {-1, 10, LEAST, MOST}) {
            due("column(0, " + what + ")", x.column(0, what), BAD);
        }
        for (int i : new int[] {-1, 7, LEAST, MOST}) {
            due("column(" + i + ", 1)", x.column(i, 1), BAD);
        }
        due("column(0, 0) without columns", new HistogramStairs().column(0, 0), BAD);
        due("column(3, 8) of equal columns", flat(40, 0).column(3, 8), 40);
    }

    private static void promise12ColumnTree() {
        promise = 12;
        HistogramStairs x = of(3, 5, 3, 1, 3, 3, 4);
        answers(x, 6, 3, 2, 0, NONE, 3, 4, 5);
        answers(x, 7, 1, 3, 2, 0, 1, 2, 3);
        HistogramStairs lowestOfSeveral = of(2, 9, 1, 7, 8, 1, 6);
        answers(lowestOfSeveral, 6, 2, 0, NONE, 5, 3, 2, 5);
        answers(lowestOfSeveral, 7, 1, 2, 0, 2, 3, 1, 2);
        HistogramStairs falling = of(5, 4, 3, 2);
        answers(falling, 6, 1, 2, 3, NONE);
        answers(falling, 7, 3, 2, 1, 0);
    }

    private static void promise13Stair() {
        promise = 13;
        HistogramStairs x = of(0, 4, 2, 2, 6, 5, 5, 9);
        int[] want = {7, 6, 3, 0, NONE, NONE};
        for (int k = 0; k < want.length; k++) {
            due("stair(7, " + k + ")", x.stair(7, k), want[k]);
        }
        due("stair(0, 0)", x.stair(0, 0), 0);
        due("stair(0, 1)", x.stair(0, 1), NONE);
        due("stair(2, 1)", x.stair(2, 1), 0);
        due("stair(7, MOST)", x.stair(7, MOST), NONE);
        due("stair(7, -1)", x.stair(7, -1), BAD);
        due("stair(7, LEAST)", x.stair(7, LEAST), BAD);
        due("stair(8, 0)", x.stair(8, 0), BAD);
        due("stair(-1, 0)", x.stair(-1, 0), BAD);
        due("stair(MOST, MOST)", x.stair(MOST, MOST), BAD);
    }

    private static void promise14Range() {
        promise = 14;
        HistogramStairs x = of(9, 3, 7, 2, 7, 2, 0);
        int[] want = {2, 3, 7, 2, 21, 10, 1, 5, 2};
        for (int what = 0; what < want.length; what++) {
            due("range(1, 5, " + what + ")", x.range(1, 5, what), want[what]);
        }
        due("range(0, 6, 1)", x.range(0, 6, 1), 6);
        due("range(4, 4, 0)", x.range(4, 4, 0), 7);
        due("range(4, 4, 1)", x.range(4, 4, 1), 4);
        due("range(4, 4, 3)", x.range(4, 4, 3), 4);
        for (int what : new int[] {-1, 9, LEAST, MOST}) {
            due("range(0, 6, " + what + ")", x.range(0, 6, what), BAD);
        }
        due("range(2, 1, 0)", x.range(2, 1, 0), BAD);
        due("range(-1, 1, 0)", x.range(-1, 1, 0), BAD);
        due("range(0, 7, 0)", x.range(0, 7, 0), BAD);
        due("range(7, 7, 5)", x.range(7, 7, 5), BAD);
        due("range(LEAST, MOST, 5)", x.range(LEAST, MOST, 5), BAD);
    }

    private static void promise14LargestRectangle() {
        promise = 14;
        // Of the same area: 4 x 1 and 2 x 2 from column 0 on, then 4 x 1 at column 3.
        HistogramStairs x = of(4, 2, 0, 4, 0, 1, 1, 1, 1);
        largest(x, 0, 8, 4, 0, 0, 4);
        largest(x, 1, 8, 4, 3, 3, 4);
        largest(x, 5, 8, 4, 5, 8, 1);
        largest(x, 6, 7, 2, 6, 7, 1);
        // Beyond its range the rectangle could be larger.
        largest(x, 1, 2, 2, 1, 1, 2);
        largest(x, 2, 2, 0, NONE, NONE, NONE);
        largest(of(0, 0, 0), 0, 2, 0, NONE, NONE, NONE);
        largest(flat(40, 50), 0, 39, 2000, 0, 39, 50);
    }

    private static void largest(HistogramStairs x, int a, int b, int area, int first, int last, int height) {
        int[] want = {area, first, last, height};
        for (int what = 5; what <= 8; what++) {
            due("range(" + a + ", " + b + ", " + what + ")", x.range(a, b, what), want[what - 5]);
        }
    }

    private static void promise15Rectangle() {
        promise = 15;
        // 6: 6 x 1 of columns 0 to 5, and 2 x 3 of 3 to 5; 4: 4 x 1 at 0, 2 x 2 of 0 to 1, 4 x 1 at 4.
        HistogramStairs x = of(4, 2, 1, 2, 4, 2, 0);
        rectangle(x, 0, 6, 0, 5, 1, 1, 2);
        rectangle(x, 1, 6, 3, 5, 2, 2, 3);
        rectangle(x, 2, 4, 0, 0, 4, 1, 0);
        rectangle(x, 3, 4, 0, 1, 2, 1, 1);
        rectangle(x, 4, 4, 4, 4, 4, 1, 4);
        rectangle(x, 5, NONE, NONE, NONE, NONE, NONE, NONE);
        rectangle(x, MOST, NONE, NONE, NONE, NONE, NONE, NONE);
        rectangle(x, -1, BAD, BAD, BAD, BAD, BAD, BAD);
        rectangle(x, LEAST, BAD, BAD, BAD, BAD, BAD, BAD);
        for (int what : new int[] {-1, 6, LEAST, MOST}) {
            due("rectangle(0, " + what + ")", x.rectangle(0, what), BAD);
            due("rectangle(9, " + what + "): BAD comes before NONE", x.rectangle(9, what), BAD);
        }
        rectangle(flat(40, 3), 0, 120, 0, 39, 3, 40, 0);
        rectangle(flat(40, 3), 1, NONE, NONE, NONE, NONE, NONE, NONE);
        rectangle(flat(40, 0), 0, NONE, NONE, NONE, NONE, NONE, NONE);
        rectangle(new HistogramStairs(), 0, NONE, NONE, NONE, NONE, NONE, NONE);
    }

    private static void rectangle(HistogramStairs x, int k, int... want) {
        for (int what = 0; what <= 5; what++) {
            due("rectangle(" + k + ", " + what + ")", x.rectangle(k, what), want[what]);
        }
    }

    private static void promise16Container() {
        promise = 16;
        container(of(1, 8, 6, 2, 5, 4, 8, 3, 7), 49, 1, 8);
        container(of(3, 0, 0, 3, 0, 0, 3, 9, 9), 24, 0, 8);
        container(of(2, 4, 0, 4, 2), 8, 0, 4);
        container(of(1, 2, 2, 2, 1), 4, 0, 4);
        container(of(0, 3, 3, 0, 3, 3), 12, 1, 5);
        container(of(6, 0, 3, 3, 2, 0, 0), 9, 0, 3);
        container(of(3, 9, 9, 0), 9, 1, 2);
        container(of(1, 3, 3, 1), 3, 0, 3);
        container(of(6, 6, 3), 6, 0, 1);
        container(of(0, 7), 0, 0, 1);
        container(of(5, 5), 5, 0, 1);
        container(of(5), NONE, NONE, NONE);
        container(new HistogramStairs(), NONE, NONE, NONE);
        container(flat(40, 50), 1950, 0, 39);
        for (int what : new int[] {-1, 3, LEAST, MOST}) {
            due("container(" + what + ")", of(1, 2).container(what), BAD);
            due("container(" + what + ") without columns", new HistogramStairs().container(what), BAD);
        }
    }

    private static void container(HistogramStairs x, int product, int i, int j) {
        due("container(0)", x.container(0), product);
        due("container(1)", x.container(1), i);
        due("container(2)", x.container(2), j);
    }

    private static void promise17Pool() {
        promise = 17;
        HistogramStairs x = of(0, 4, 1, 2, 4, 0, 6, 3, 0, 5, 5, 2, 3, 0);
        pool(x, 0, 2, 3, 5, 4, 3);
        pool(x, 1, 5, 5, 4, 4, 4);
        pool(x, 2, 7, 8, 7, 5, 5);
        pool(x, 3, 11, 11, 1, 3, 1);
        pool(x, 4, NONE, NONE, NONE, NONE, NONE);
        pool(x, MOST, NONE, NONE, NONE, NONE, NONE);
        pool(x, -1, BAD, BAD, BAD, BAD, BAD);
        pool(x, LEAST, BAD, BAD, BAD, BAD, BAD);
        for (int what : new int[] {-1, 5, LEAST, MOST}) {
            due("pool(0, " + what + ")", x.pool(0, what), BAD);
            due("pool(9, " + what + "): BAD comes before NONE", x.pool(9, what), BAD);
        }
        pool(of(3, 1, 2, 3), 0, 1, 2, 3, 3, 2);
        pool(of(1, 2, 3, 2, 1), 0, NONE, NONE, NONE, NONE, NONE);
        pool(new HistogramStairs(), 0, NONE, NONE, NONE, NONE, NONE);
    }

    private static void pool(HistogramStairs x, int k, int... want) {
        for (int what = 0; what <= 4; what++) {
            due("pool(" + k + ", " + what + ")", x.pool(k, what), want[what]);
        }
    }

    private static void promise18Drained() {
        promise = 18;
        HistogramStairs x = of(4, 1, 2, 0, 3, 5, 1, 1);
        due("told(3)", x.told(3), 3 + 2 + 4 + 1);
        // What stays: with a drain at 1, 2 above column 3; at 2, 1 and 2 beside it; at 3, 1 above column 1;
        // at 4, 2, 1 and 3 up to the height of column 4.
        int[] want = {0, 10 - 2, 10 - 3, 10 - 1, 10 - 6, 0, 0, 0};
        for (int i = 0; i < want.length; i++) {
            due("drained(" + i + ")", x.drained(i), want[i]);
        }
        for (int i : new int[] {-1, 8, LEAST, MOST}) {
            due("drained(" + i + ")", x.drained(i), BAD);
        }
        due("drained(0) without columns", new HistogramStairs().drained(0), BAD);
        due("drained(0) of one column", of(7).drained(0), 0);
        unchanged(x, 8, 4, 1, 2, 0, 3, 5, 1, 1);
    }

    private static void promise19Dam() {
        promise = 19;
        HistogramStairs x = of(3, 1, 2, 0, 5);
        dam(x, 1, 0, 3 + 2 + 4);
        dam(x, 2, 0, 4 + 3 + 5);
        dam(x, 50, 0, 12);
        unchanged(x, 5, 3, 1, 2, 0, 5);
        // All are as good, or as useless: the lowest one.
        dam(of(0, 0, 0), 4, 0, 0);
        dam(of(2), 50, 0, 0);
        // Not above 50: nothing is won by raising a column that is at 50 already.
        dam(of(50, 0, 50), 50, 0, 50);
        dam(of(49, 0, 50), 7, 0, 50);
        dam(of(5, 0, 1, 0, 0), 3, 4, 8);
        dam(of(1, 1, 4, 0, 0, 0), 1, 5, 2);
        due("dam(0, 0)", x.dam(0, 0), BAD);
        due("dam(51, 0)", x.dam(51, 0), BAD);
        due("dam(1, 2)", x.dam(1, 2), BAD);
        due("dam(1, -1)", x.dam(1, -1), BAD);
        due("dam(LEAST, MOST)", x.dam(LEAST, MOST), BAD);
        due("dam(MOST, 1)", x.dam(MOST, 1), BAD);
        HistogramStairs empty = new HistogramStairs();
        due("dam(1, 0) without columns", empty.dam(1, 0), STATE);
        due("dam(50, 1) without columns", empty.dam(50, 1), STATE);
        due("dam(0, 0) without columns: BAD comes before STATE", empty.dam(0, 0), BAD);
        due("dam(1, 2) without columns: BAD comes before STATE", empty.dam(1, 2), BAD);
    }

    private static void dam(HistogramStairs x, int d, int column, int water) {
        due("dam(" + d + ", 0)", x.dam(d, 0), column);
        due("dam(" + d + ", 1)", x.dam(d, 1), water);
    }

    private static void promise20SumOfMinima() {
        promise = 20;
        due("sumOfMinima() without columns", new HistogramStairs().sumOfMinima(), 0);
        due("sumOfMinima()", of(3, 1, 2, 4).sumOfMinima(), 3 + 1 + 1 + 1 + 1 + 1 + 1 + 2 + 2 + 4);
        due("sumOfMinima()", of(50, 50).sumOfMinima(), 150);
        due("sumOfMinima()", of(0).sumOfMinima(), 0);
        due("sumOfMinima() of the greatest histogram", flat(40, 50).sumOfMinima(), 41000);
    }

    private static void promise21Ranges() {
        promise = 21;
        HistogramStairs x = of(3, 1, 2, 4, 0, 50);
        int[] want = {21, 11, 5, 3, 2, 1};
        for (int low = 0; low < want.length; low++) {
            due("ranges(" + low + ")", x.ranges(low), want[low]);
        }
        due("ranges(50)", x.ranges(50), 1);
        due("ranges(0) without columns", new HistogramStairs().ranges(0), 0);
        due("ranges(50) of the greatest histogram", flat(40, 50).ranges(50), 820);
        for (int low : new int[] {-1, 51, LEAST, MOST}) {
            due("ranges(" + low + ")", x.ranges(low), BAD);
        }
    }

    private static void promise22Keep() {
        promise = 22;
        HistogramStairs x = of(1, 2, 3);
        due("keep(0)", x.keep(0), 3);
        due("told(11)", x.told(11), 3);
        due("the other image keeps nothing", x.back(1), STATE);
        x.set(1, 9);
        due("keep(1)", x.keep(1), 3);
        due("back(0)", x.back(0), 3);
        columns(x, 1, 2, 3);
        x.clear();
        due("keep(0) of no columns", x.keep(0), 0);
        due("back(1)", x.back(1), 3);
        columns(x, 1, 9, 3);
        due("back(0) has been replaced", x.back(0), 0);
        columns(x);
        for (int i : new int[] {-1, 2, LEAST, MOST}) {
            due("keep(" + i + ")", x.keep(i), BAD);
        }
    }

    private static void promise23Back() {
        promise = 23;
        HistogramStairs x = of(1, 2, 3);
        due("back(1)", x.back(1), STATE);
        due("told(11)", x.told(11), 3);
        x.keep(1);
        due("back(1) is a change even so", x.back(1), 3);
        due("told(11)", x.told(11), 4);
        x.set(0, 7);
        x.insert(3, 8);
        due("back(1)", x.back(1), 3);
        columns(x, 1, 2, 3);
        x.set(0, 6);
        due("back(1): the image stays", x.back(1), 3);
        columns(x, 1, 2, 3);
        due("undo()", x.undo(), 7);
        due("undo()", x.undo(), 6);
        due("undo()", x.undo(), 5);
        columns(x, 7, 2, 3, 8);
        x.keep(0);
        x.undo();
        due("an image does not belong to a state", x.back(0), 4);
        columns(x, 7, 2, 3, 8);
        for (int i : new int[] {-1, 2, LEAST, MOST}) {
            due("back(" + i + ")", x.back(i), BAD);
        }
        unchanged(x, 5, 7, 2, 3, 8);
    }

    private static void promise24Parting() {
        promise = 24;
        HistogramStairs x = of(1, 2, 3);
        due("parting(0)", x.parting(0), STATE);
        x.keep(0);
        due("parting(0)", x.parting(0), NONE);
        due("parting(1)", x.parting(1), STATE);
        x.insert(3, 0);
        due("parting(0), a column more", x.parting(0), 3);
        x.remove(3);
        x.remove(2);
        due("parting(0), a column less", x.parting(0), 2);
        x.set(1, 5);
        due("parting(0), another height", x.parting(0), 1);
        x.set(0, 0);
        due("parting(0), two other heights", x.parting(0), 0);
        x.clear();
        due("parting(0) without columns", x.parting(0), 0);
        x.keep(1);
        due("parting(1), both without columns", x.parting(1), NONE);
        x.insert(0, 0);
        due("parting(1)", x.parting(1), 0);
        for (int i : new int[] {-1, 2, LEAST, MOST}) {
            due("parting(" + i + ")", x.parting(i), BAD);
        }
    }

    // ---- what the promises' tests share

    private static HistogramStairs of(int... heights) {
        HistogramStairs x = new HistogramStairs();
        for (int i = 0; i < heights.length; i++) {
            x.insert(i, heights[i]);
        }
        return x;
    }

    private static HistogramStairs flat(int n, int height) {
        int[] heights = new int[n];
        java.util.Arrays.fill(heights, height);
        return of(heights);
    }

    private static void columns(HistogramStairs x, int... heights) {
        due("told(0)", x.told(0), heights.length);
        for (int i = 0; i < heights.length; i++) {
            due("column(" + i + ", 0)", x.column(i, 0), heights[i]);
        }
        due("column(" + heights.length + ", 0)", x.column(heights.length, 0), BAD);
    }

    private static void unchanged(HistogramStairs x, int undoable, int... heights) {
        columns(x, heights);
        due("told(11)", x.told(11), undoable);
    }

    private static void answers(HistogramStairs x, int what, int... want) {
        for (int i = 0; i < want.length; i++) {
            due("column(" + i + ", " + what + ")", x.column(i, what), want[i]);
        }
    }

    private static void due(String call, int got, int want) {
        CHECK.due("promise " + promise + ": " + call, got, want);
    }

    private PromisesTest() {
    }
}
