import java.util.Arrays;

/** A workshop for histograms: rows of columns that stand side by side. */
public final class HistogramStairs {
    public static final int BAD = -1, STATE = -2, FULL = -3, NONE = -9;

    private static final int MOST_COLUMNS = 40;
    private static final int MOST_HEIGHT = 50;
    private static final int MOST_STATES = 8;
    private static final int IMAGES = 2;

    // All rows are made once: but for the first keep() of an image, a call makes no object.
    private final Columns columns = new Columns();
    private final History history = new History();
    // An image that keeps nothing is null.
    private final Columns[] images = new Columns[IMAGES];
    private final Water water = new Water();
    private final Rectangles rectangles = new Rectangles();
    private final Tree tree = new Tree();
    private final Painter painter = new Painter();

    public HistogramStairs() {
    }

    // ---- changes

    public int insert(int at, int height) {
        if (at < 0 || at > columns.size || !isHeight(height)) {
            return BAD;
        }
        if (columns.size >= MOST_COLUMNS) {
            return FULL;
        }
        history.remember(columns);
        columns.putIn(at, height);
        return columns.size;
    }

    public int remove(int i) {
        if (!columns.has(i)) {
            return BAD;
        }
        history.remember(columns);
        return columns.takeOut(i);
    }

    public int set(int i, int height) {
        if (!columns.has(i) || !isHeight(height)) {
            return BAD;
        }
        history.remember(columns);
        int previous = columns.heights[i];
        columns.heights[i] = height;
        return previous;
    }

    public int raise(int a, int b, int by) {
        if (!columns.hasRange(a, b) || by < -MOST_HEIGHT || by > MOST_HEIGHT) {
            return BAD;
        }
        history.remember(columns);
        return columns.lift(a, b, by);
    }

    public int reverse(int a, int b) {
        if (!columns.hasRange(a, b)) {
            return BAD;
        }
        history.remember(columns);
        return columns.mirror(a, b);
    }

    public int sort(int a, int b, int up) {
        if (!columns.hasRange(a, b) || up < 0 || up > 1) {
            return BAD;
        }
        history.remember(columns);
        return columns.arrange(a, b, up == 1);
    }

    public int freeze() {
        history.remember(columns);
        int stood = pourAll();
        for (int i = 0; i < columns.size; i++) {
            columns.heights[i] += water.depths[i];
        }
        return stood;
    }

    public int clear() {
        history.remember(columns);
        int had = columns.size;
        columns.size = 0;
        return had;
    }

    public int undo() {
        if (history.count == 0) {
            return STATE;
        }
        history.restore(columns);
        return history.count;
    }

    // ---- the histogram

    public int told(int what) {
        switch (what) {
            case 0: return columns.size;
            case 1: return sumOf(columns.heights, 0, columns.size - 1);
            case 2: return columns.greatestHeight();
            case 3: return pourAll();
            case 4: return countPools();
            case 5: return countRectangles();
            case 6: return columns.countSeen(true);
            case 7: return columns.countSeen(false);
            case 8: return greatestTreeDepth();
            case 9: return columns.countRises();
            case 10: return painter.countStrokes(columns);
            case 11: return history.count;
            default: return BAD;
        }
    }

    public int column(int i, int what) {
        if (!columns.has(i)) {
            return BAD;
        }
        switch (what) {
            case 0: return columns.heights[i];
            case 1: return columns.smallerToLeft(i);
            case 2: return columns.smallerToRight(i);
            case 3: return columns.greaterToLeft(i);
            case 4: return columns.greaterToRight(i);
            case 5: return depthOfWater(i);
            case 6: return treeParent(i);
            case 7: return treeDepth(i);
            case 8: return columns.span(i);
            case 9: return columns.stairLength(i);
            default: return BAD;
        }
    }

    public int stair(int i, int k) {
        if (!columns.has(i) || k < 0) {
            return BAD;
        }
        return columns.stairStep(i, k);
    }

    public int range(int a, int b, int what) {
        if (!columns.hasRange(a, b)) {
            return BAD;
        }
        int[] heights = columns.heights;
        switch (what) {
            case 0: return heights[lowestLeast(heights, a, b)];
            case 1: return lowestLeast(heights, a, b);
            case 2: return heights[lowestGreatest(heights, a, b)];
            case 3: return lowestGreatest(heights, a, b);
            case 4: return sumOf(heights, a, b);
            case 5:
            case 6:
            case 7:
            case 8: return largestRectangle(a, b, what - 5);
            default: return BAD;
        }
    }

    public int rectangle(int k, int what) {
        if (k < 0 || what < 0 || what > 5) {
            return BAD;
        }
        rectangles.find(columns.heights, 0, columns.size - 1);
        if (k >= rectangles.count) {
            return NONE;
        }
        switch (what) {
            case 4: return rectangles.countOwners(k, columns.heights);
            case 5: return rectangles.owners[k];
            default: return rectangles.property(k, what);
        }
    }

    public int container(int what) {
        if (what < 0 || what > 2) {
            return BAD;
        }
        if (columns.size < 2) {
            return NONE;
        }
        int best = -1;
        int left = 0;
        int right = 0;
        for (int i = 0; i < columns.size; i++) {
            for (int j = i + 1; j < columns.size; j++) {
                int product = Math.min(columns.heights[i], columns.heights[j]) * (j - i);
                if (product > best) {
                    best = product;
                    left = i;
                    right = j;
                }
            }
        }
        switch (what) {
            case 0: return best;
            case 1: return left;
            default: return right;
        }
    }

    // ---- water

    public int pool(int k, int what) {
        if (k < 0 || what < 0 || what > 4) {
            return BAD;
        }
        pourAll();
        int first = water.poolStart(k, columns.size);
        if (first == NONE) {
            return NONE;
        }
        int last = water.poolEnd(first, columns.size);
        switch (what) {
            case 0: return first;
            case 1: return last;
            case 2: return sumOf(water.depths, first, last);
            case 3: return columns.heights[first] + water.depths[first];
            default: return water.depths[lowestGreatest(water.depths, first, last)];
        }
    }

    public int drained(int i) {
        if (!columns.has(i)) {
            return BAD;
        }
        int left = water.pour(columns.heights, 0, i);
        int right = water.pour(columns.heights, i, columns.size - 1);
        return pourAll() - left - right;
    }

    public int dam(int d, int what) {
        if (d < 1 || d > MOST_HEIGHT || what < 0 || what > 1) {
            return BAD;
        }
        if (columns.size == 0) {
            return STATE;
        }
        int best = 0;
        int most = -1;
        for (int i = 0; i < columns.size; i++) {
            int stays = waterWithDam(i, d);
            if (stays > most) {
                most = stays;
                best = i;
            }
        }
        return what == 0 ? best : most;
    }

    // ---- all ranges

    public int sumOfMinima() {
        int sum = 0;
        for (int a = 0; a < columns.size; a++) {
            int least = MOST_HEIGHT;
            for (int b = a; b < columns.size; b++) {
                least = Math.min(least, columns.heights[b]);
                sum += least;
            }
        }
        return sum;
    }

    public int ranges(int low) {
        if (!isHeight(low)) {
            return BAD;
        }
        int count = 0;
        // As many ranges end at a column as there are columns in the run that ends there.
        int run = 0;
        for (int i = 0; i < columns.size; i++) {
            run = columns.heights[i] >= low ? run + 1 : 0;
            count += run;
        }
        return count;
    }

    // ---- images

    public int keep(int i) {
        if (!isImage(i)) {
            return BAD;
        }
        Columns image = images[i];
        if (image == null) {
            image = new Columns();
            images[i] = image;
        }
        image.copyFrom(columns);
        return columns.size;
    }

    public int back(int i) {
        if (!isImage(i)) {
            return BAD;
        }
        Columns image = images[i];
        if (image == null) {
            return STATE;
        }
        history.remember(columns);
        columns.copyFrom(image);
        return columns.size;
    }

    public int parting(int i) {
        if (!isImage(i)) {
            return BAD;
        }
        Columns image = images[i];
        if (image == null) {
            return STATE;
        }
        return columns.firstDifference(image);
    }

    // ---- what the methods above share

    private static boolean isHeight(int height) {
        return height >= 0 && height <= MOST_HEIGHT;
    }

    private static boolean isImage(int i) {
        return i >= 0 && i < IMAGES;
    }

    private int pourAll() {
        return water.pour(columns.heights, 0, columns.size - 1);
    }

    private int countPools() {
        pourAll();
        return water.poolCount(columns.size);
    }

    private int depthOfWater(int i) {
        pourAll();
        return water.depths[i];
    }

    private int waterWithDam(int i, int d) {
        int height = columns.heights[i];
        columns.heights[i] = Math.min(height + d, MOST_HEIGHT);
        int stays = pourAll();
        columns.heights[i] = height;
        return stays;
    }

    private int countRectangles() {
        rectangles.find(columns.heights, 0, columns.size - 1);
        return rectangles.count;
    }

    /** A property (as Rectangles numbers them) of the largest rectangle in a range. */
    private int largestRectangle(int a, int b, int what) {
        rectangles.find(columns.heights, a, b);
        if (rectangles.count == 0) {
            return what == 0 ? 0 : NONE;
        }
        return rectangles.property(0, what);
    }

    private int treeParent(int i) {
        tree.grow(columns);
        return tree.parents[i];
    }

    private int treeDepth(int i) {
        tree.grow(columns);
        return tree.depthOf(i);
    }

    private int greatestTreeDepth() {
        tree.grow(columns);
        int greatest = NONE;
        for (int i = 0; i < columns.size; i++) {
            greatest = Math.max(greatest, tree.depthOf(i));
        }
        return greatest;
    }

    private static int sumOf(int[] row, int first, int last) {
        int sum = 0;
        for (int i = first; i <= last; i++) {
            sum += row[i];
        }
        return sum;
    }

    private static int lowestLeast(int[] row, int first, int last) {
        int place = first;
        for (int i = first + 1; i <= last; i++) {
            if (row[i] < row[place]) {
                place = i;
            }
        }
        return place;
    }

    private static int lowestGreatest(int[] row, int first, int last) {
        int place = first;
        for (int i = first + 1; i <= last; i++) {
            if (row[i] > row[place]) {
                place = i;
            }
        }
        return place;
    }

    /** The columns of one histogram: the one that is edited, a state of the history, or an image. */
    private static final class Columns {
        private final int[] heights = new int[MOST_COLUMNS];
        private int size = 0;

        void copyFrom(Columns other) {
            System.arraycopy(other.heights, 0, heights, 0, other.size);
            size = other.size;
        }

        boolean has(int i) {
            return i >= 0 && i < size;
        }

        boolean hasRange(int a, int b) {
            return a >= 0 && a <= b && b < size;
        }

        void putIn(int at, int height) {
            System.arraycopy(heights, at, heights, at + 1, size - at);
            heights[at] = height;
            size++;
        }

        int takeOut(int i) {
            int height = heights[i];
            System.arraycopy(heights, i + 1, heights, i, size - i - 1);
            size--;
            return height;
        }

        int lift(int a, int b, int by) {
            int changed = 0;
            for (int i = a; i <= b; i++) {
                int height = Math.max(0, Math.min(heights[i] + by, MOST_HEIGHT));
                if (height != heights[i]) {
                    heights[i] = height;
                    changed++;
                }
            }
            return changed;
        }

        int mirror(int a, int b) {
            int changed = 0;
            for (int low = a, high = b; low < high; low++, high--) {
                if (heights[low] != heights[high]) {
                    exchange(low, high);
                    changed += 2;
                }
            }
            return changed;
        }

        /**
         * Sorts by exchanging neighbours, since each exchange mends just one pair that stands in
         * the wrong order: the exchanges are the pairs to be told.
         */
        int arrange(int a, int b, boolean up) {
            int exchanges = 0;
            for (int i = a + 1; i <= b; i++) {
                for (int j = i; j > a && isWrong(heights[j - 1], heights[j], up); j--) {
                    exchange(j - 1, j);
                    exchanges++;
                }
            }
            return exchanges;
        }

        private static boolean isWrong(int left, int right, boolean up) {
            return up ? left > right : left < right;
        }

        private void exchange(int i, int j) {
            int height = heights[i];
            heights[i] = heights[j];
            heights[j] = height;
        }

        int greatestHeight() {
            return size == 0 ? 0 : heights[lowestGreatest(heights, 0, size - 1)];
        }

        /** How many columns are greater than all that lie before them, for one who looks from an end. */
        int countSeen(boolean fromLeft) {
            int count = 0;
            int greatest = -1;
            for (int passed = 0; passed < size; passed++) {
                int i = fromLeft ? passed : size - 1 - passed;
                if (heights[i] > greatest) {
                    greatest = heights[i];
                    count++;
                }
            }
            return count;
        }

        /** The horizontal strokes: in each row, one begins wherever the histogram rises through it. */
        int countRises() {
            int rises = 0;
            int before = 0;
            for (int i = 0; i < size; i++) {
                rises += Math.max(0, heights[i] - before);
                before = heights[i];
            }
            return rises;
        }

        int smallerToLeft(int i) {
            for (int j = i - 1; j >= 0; j--) {
                if (heights[j] < heights[i]) {
                    return j;
                }
            }
            return NONE;
        }

        int smallerToRight(int i) {
            for (int j = i + 1; j < size; j++) {
                if (heights[j] < heights[i]) {
                    return j;
                }
            }
            return NONE;
        }

        int greaterToLeft(int i) {
            for (int j = i - 1; j >= 0; j--) {
                if (heights[j] > heights[i]) {
                    return j;
                }
            }
            return NONE;
        }

        int greaterToRight(int i) {
            for (int j = i + 1; j < size; j++) {
                if (heights[j] > heights[i]) {
                    return j;
                }
            }
            return NONE;
        }

        int span(int i) {
            int left = smallerToLeft(i);
            int right = smallerToRight(i);
            int first = left == NONE ? 0 : left + 1;
            int last = right == NONE ? size - 1 : right - 1;
            return last - first + 1;
        }

        int stairLength(int i) {
            int length = 1;
            int step = i;
            for (int j = i - 1; j >= 0; j--) {
                if (heights[j] < heights[step]) {
                    step = j;
                    length++;
                }
            }
            return length;
        }

        int stairStep(int i, int k) {
            int walked = 0;
            int step = i;
            for (int j = i - 1; j >= 0 && walked < k; j--) {
                if (heights[j] < heights[step]) {
                    step = j;
                    walked++;
                }
            }
            return walked == k ? step : NONE;
        }

        int firstDifference(Columns other) {
            int both = Math.min(size, other.size);
            for (int i = 0; i < both; i++) {
                if (heights[i] != other.heights[i]) {
                    return i;
                }
            }
            return size == other.size ? NONE : both;
        }
    }

    /** The states that can be restored, the oldest first. */
    private static final class History {
        private final Columns[] states = new Columns[MOST_STATES];
        private int count = 0;

        History() {
            for (int i = 0; i < MOST_STATES; i++) {
                states[i] = new Columns();
            }
        }

        void remember(Columns now) {
            if (count == MOST_STATES) {
                dropOldest();
            }
            states[count].copyFrom(now);
            count++;
        }

        void restore(Columns now) {
            count--;
            now.copyFrom(states[count]);
        }

        private void dropOldest() {
            Columns oldest = states[0];
            for (int i = 1; i < MOST_STATES; i++) {
                states[i - 1] = states[i];
            }
            // The dropped state's row serves again for the next one.
            states[MOST_STATES - 1] = oldest;
            count--;
        }
    }

    /** The water that stays on columns. */
    private static final class Water {
        private final int[] depths = new int[MOST_COLUMNS];

        /** Finds the depths on the columns of a range as if there were no others; returns their sum. */
        int pour(int[] heights, int first, int last) {
            int wall = 0;
            for (int i = first; i <= last; i++) {
                wall = Math.max(wall, heights[i]);
                depths[i] = wall;
            }
            int sum = 0;
            wall = 0;
            for (int i = last; i >= first; i--) {
                wall = Math.max(wall, heights[i]);
                depths[i] = Math.min(depths[i], wall) - heights[i];
                sum += depths[i];
            }
            return sum;
        }

        int poolCount(int size) {
            int count = 0;
            for (int i = 0; i < size; i++) {
                if (startsPool(i)) {
                    count++;
                }
            }
            return count;
        }

        int poolStart(int k, int size) {
            int before = 0;
            for (int i = 0; i < size; i++) {
                if (startsPool(i)) {
                    if (before == k) {
                        return i;
                    }
                    before++;
                }
            }
            return NONE;
        }

        int poolEnd(int start, int size) {
            int end = start;
            while (end + 1 < size && depths[end + 1] > 0) {
                end++;
            }
            return end;
        }

        private boolean startsPool(int i) {
            return depths[i] > 0 && (i == 0 || depths[i - 1] == 0);
        }
    }

    /** The maximal rectangles of a range, in the order of their numbers. */
    private static final class Rectangles {
        private final int[] firsts = new int[MOST_COLUMNS];
        private final int[] lasts = new int[MOST_COLUMNS];
        private final int[] tops = new int[MOST_COLUMNS];
        private final int[] owners = new int[MOST_COLUMNS];
        private int count = 0;

        void find(int[] heights, int a, int b) {
            count = 0;
            for (int i = a; i <= b; i++) {
                if (heights[i] > 0) {
                    findOwnedBy(i, heights, a, b);
                }
            }
        }

        int property(int k, int what) {
            switch (what) {
                case 0: return area(k);
                case 1: return firsts[k];
                case 2: return lasts[k];
                default: return tops[k];
            }
        }

        int countOwners(int k, int[] heights) {
            int ownersFound = 0;
            for (int i = firsts[k]; i <= lasts[k]; i++) {
                if (heights[i] == tops[k]) {
                    ownersFound++;
                }
            }
            return ownersFound;
        }

        private int area(int k) {
            return tops[k] * (lasts[k] - firsts[k] + 1);
        }

        private void findOwnedBy(int i, int[] heights, int a, int b) {
            int first = i;
            while (first > a && heights[first - 1] > heights[i]) {
                first--;
            }
            // A lower owner has the same rectangle, which must be told once only.
            if (first > a && heights[first - 1] == heights[i]) {
                return;
            }
            int last = i;
            while (last < b && heights[last + 1] >= heights[i]) {
                last++;
            }
            place(first, last, heights[i], i);
        }

        private void place(int first, int last, int top, int owner) {
            int at = count;
            while (at > 0 && comesBefore(first, last, top, at - 1)) {
                firsts[at] = firsts[at - 1];
                lasts[at] = lasts[at - 1];
                tops[at] = tops[at - 1];
                owners[at] = owners[at - 1];
                at--;
            }
            firsts[at] = first;
            lasts[at] = last;
            tops[at] = top;
            owners[at] = owner;
            count++;
        }

        private boolean comesBefore(int first, int last, int top, int k) {
            int area = top * (last - first + 1);
            if (area != area(k)) {
                return area > area(k);
            }
            if (first != firsts[k]) {
                return first < firsts[k];
            }
            return last < lasts[k];
        }
    }

    /** The tree of least columns. */
    private static final class Tree {
        private final int[] parents = new int[MOST_COLUMNS];
        private final int[] spine = new int[MOST_COLUMNS];

        /**
         * Grows the tree from left to right. The spine goes from the root of the columns so far
         * to the last of them; a new column goes below those that are not greater than it, and
         * above the rest. An equal one stays above, since it is the lower one.
         */
        void grow(Columns columns) {
            int length = 0;
            for (int i = 0; i < columns.size; i++) {
                int below = NONE;
                while (length > 0 && columns.heights[spine[length - 1]] > columns.heights[i]) {
                    length--;
                    below = spine[length];
                }
                if (below != NONE) {
                    parents[below] = i;
                }
                parents[i] = length > 0 ? spine[length - 1] : NONE;
                spine[length] = i;
                length++;
            }
        }

        int depthOf(int i) {
            int depth = 0;
            int above = parents[i];
            while (depth < MOST_COLUMNS && above != NONE) {
                depth++;
                above = parents[above];
            }
            return depth;
        }
    }

    /** Counts the strokes, horizontal or vertical, that paint a histogram. */
    private static final class Painter {
        // The strokes for all squares of a run, and above it, stand at the run's first column.
        private final int[] strokes = new int[MOST_COLUMNS];

        int countStrokes(Columns columns) {
            Arrays.fill(strokes, 0);
            for (int row = columns.greatestHeight(); row >= 1; row--) {
                paintRow(row, columns);
            }
            return sumOf(strokes, 0, columns.size - 1);
        }

        private void paintRow(int row, Columns columns) {
            int first = NONE;
            for (int i = 0; i < columns.size; i++) {
                if (columns.heights[i] < row) {
                    paintRun(first, i - 1);
                    first = NONE;
                } else if (first == NONE) {
                    first = i;
                }
            }
            paintRun(first, columns.size - 1);
        }

        /**
         * Without a horizontal stroke along the run, each of its columns needs a vertical one, and
         * these paint all above it, too; so there is nothing else to choose from.
         */
        private void paintRun(int first, int last) {
            if (first == NONE) {
                return;
            }
            int above = sumOf(strokes, first, last);
            Arrays.fill(strokes, first, last + 1, 0);
            strokes[first] = Math.min(above + 1, last - first + 1);
        }
    }
}
