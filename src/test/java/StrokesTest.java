import java.util.ArrayList;
import java.util.Arrays;
import java.util.List;
import java.util.Random;

/**
 * Promise 11, the strokes: all small histograms, painted with every choice of strokes, and larger ones, in which as many
 * squares are looked for as can be found with no two on one stroke. Each of these squares needs a stroke of its own, and
 * by the theorem of Koenig so many strokes are enough.
 */
public final class StrokesTest {
    private static final int DRAWN = 2000;

    public static void main(String[] args) {
        Check check = new Check("StrokesTest");
        for (int n = 1; n <= 3; n++) {
            allHistograms(check, n, 4);
        }
        allHistograms(check, 4, 3);
        allHistograms(check, 5, 2);
        allHistograms(check, 6, 1);
        largeHistograms(check);
        check.end();
    }

    private static void largeHistograms(Check check) {
        Random random = new Random(20261118);
        for (int number = 0; number < DRAWN; number++) {
            int[] heights = new int[random.nextInt(41)];
            int tallest = 1 + random.nextInt(50);
            for (int i = 0; i < heights.length; i++) {
                heights[i] = drawnHeight(random, number % 3, i, heights.length, tallest);
            }
            HistogramStairs made = new HistogramStairs();
            for (int i = 0; i < heights.length; i++) {
                made.insert(i, heights[i]);
            }
            String row = Arrays.toString(heights);
            List<boolean[]> runs = longestRuns(heights);
            check.due(row + " told(9)", made.told(9), runs.size());
            check.due(row + " told(10)", made.told(10), squaresApart(heights.length, runs));
        }
    }

    /** Drawn freely, or on a hill, or in a valley: without these, vertical strokes would nearly always be the best. */
    private static int drawnHeight(Random random, int shape, int i, int n, int tallest) {
        if (shape == 0) {
            return random.nextInt(tallest + 1);
        }
        int fromEnd = Math.min(i, n - 1 - i);
        int slope = shape == 1 ? fromEnd : 20 - fromEnd;
        return Math.min(tallest, Math.max(0, slope / 2 + random.nextInt(4)));
    }

    /** The horizontal strokes that can be made no longer, each as the columns that it passes. */
    private static List<boolean[]> longestRuns(int[] heights) {
        List<boolean[]> runs = new ArrayList<>();
        for (int level = 1; level <= 50; level++) {
            boolean[] open = null;
            for (int i = 0; i < heights.length; i++) {
                if (heights[i] < level) {
                    open = null;
                    continue;
                }
                if (open == null) {
                    open = new boolean[heights.length];
                    runs.add(open);
                }
                open[i] = true;
            }
        }
        return runs;
    }

    /** As many squares as can be chosen with no two in one column or on one of the runs. */
    private static int squaresApart(int n, List<boolean[]> runs) {
        int[] columnOf = new int[runs.size()];
        Arrays.fill(columnOf, -1);
        int squares = 0;
        for (int i = 0; i < n; i++) {
            if (findsRun(i, runs, columnOf, new boolean[runs.size()])) {
                squares++;
            }
        }
        return squares;
    }

    private static boolean findsRun(int i, List<boolean[]> runs, int[] columnOf, boolean[] tried) {
        for (int run = 0; run < runs.size(); run++) {
            if (runs.get(run)[i] && !tried[run]) {
                tried[run] = true;
                if (columnOf[run] < 0 || findsRun(columnOf[run], runs, columnOf, tried)) {
                    columnOf[run] = i;
                    return true;
                }
            }
        }
        return false;
    }

    private static void allHistograms(Check check, int n, int tallest) {
        int count = 1;
        for (int i = 0; i < n; i++) {
            count *= tallest + 1;
        }
        for (int number = 0; number < count; number++) {
            int[] heights = new int[n];
            int rest = number;
            HistogramStairs made = new HistogramStairs();
            for (int i = 0; i < n; i++) {
                heights[i] = rest % (tallest + 1);
                rest /= tallest + 1;
                made.insert(i, heights[i]);
            }
            String row = Arrays.toString(heights);
            List<Long> horizontal = horizontalStrokes(heights, tallest);
            check.due(row + " told(9)", made.told(9), least(horizontal, allSquares(heights)));
            List<Long> both = new ArrayList<>(horizontal);
            for (int i = 0; i < n; i++) {
                both.add(verticalStroke(i, heights[i]));
            }
            check.due(row + " told(10)", made.told(10), least(both, allSquares(heights)));
        }
    }

    /** A shorter stroke paints nothing that the longest one through the same squares does not. */
    private static List<Long> horizontalStrokes(int[] heights, int tallest) {
        List<Long> strokes = new ArrayList<>();
        for (int level = 0; level < tallest; level++) {
            long stroke = 0;
            for (int i = 0; i <= heights.length; i++) {
                if (i < heights.length && heights[i] > level) {
                    stroke |= square(i, level);
                } else if (stroke != 0) {
                    strokes.add(stroke);
                    stroke = 0;
                }
            }
        }
        return strokes;
    }

    private static long verticalStroke(int i, int height) {
        long stroke = 0;
        for (int level = 0; level < height; level++) {
            stroke |= square(i, level);
        }
        return stroke;
    }

    private static long allSquares(int[] heights) {
        long squares = 0;
        for (int i = 0; i < heights.length; i++) {
            squares |= verticalStroke(i, heights[i]);
        }
        return squares;
    }

    private static long square(int i, int level) {
        return 1L << (i * 6 + level);
    }

    private static int least(List<Long> strokes, long squares) {
        int least = strokes.size();
        for (int choice = 0; choice < 1 << strokes.size(); choice++) {
            long painted = 0;
            for (int i = 0; i < strokes.size(); i++) {
                if ((choice >> i & 1) == 1) {
                    painted |= strokes.get(i);
                }
            }
            if (painted == squares) {
                least = Math.min(least, Integer.bitCount(choice));
            }
        }
        return least;
    }

    private StrokesTest() {
    }
}
