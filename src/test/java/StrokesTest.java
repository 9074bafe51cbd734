import java.util.ArrayList;
import java.util.List;

/** Promise 11, the strokes: all small histograms, painted with every choice of strokes. */
public final class StrokesTest {
    public static void main(String[] args) {
        Check check = new Check("StrokesTest");
        for (int n = 1; n <= 3; n++) {
            allHistograms(check, n, 4);
        }
        allHistograms(check, 4, 3);
        allHistograms(check, 5, 2);
        allHistograms(check, 6, 1);
        check.end();
    }

    private static void allHistograms(Check check, int n, int tallest) {
        int count = 1;
        for (int i = 0; i < n; i++) {
            count *= tallest + 1;
        }
        for (int number = 0; number < count; number++) {
            int[] heights = new int[n];
            int rest = number;
            HistogramStairs made = new HistogramStairs();
            for (int i = 0; i < n; i++) {
                heights[i] = rest % (tallest + 1);
                rest /= tallest + 1;
                made.insert(i, heights[i]);
            }
            String row = java.util.Arrays.toString(heights);
            List<Long> horizontal = horizontalStrokes(heights, tallest);
            check.due(row + " told(9)", made.told(9), least(horizontal, allSquares(heights)));
            List<Long> both = new ArrayList<>(horizontal);
            for (int i = 0; i < n; i++) {
                both.add(verticalStroke(i, heights[i]));
            }
            check.due(row + " told(10)", made.told(10), least(both, allSquares(heights)));
        }
    }

    /** A shorter stroke paints nothing that the longest one through the same squares does not. */
    private static List<Long> horizontalStrokes(int[] heights, int tallest) {
        List<Long> strokes = new ArrayList<>();
        for (int level = 0; level < tallest; level++) {
            long stroke = 0;
            for (int i = 0; i <= heights.length; i++) {
                if (i < heights.length && heights[i] > level) {
                    stroke |= square(i, level);
                } else if (stroke != 0) {
                    strokes.add(stroke);
                    stroke = 0;
                }
            }
        }
        return strokes;
    }

    private static long verticalStroke(int i, int height) {
        long stroke = 0;
        for (int level = 0; level < height; level++) {
            stroke |= square(i, level);
        }
        return stroke;
    }

    private static long allSquares(int[] heights) {
        long squares = 0;
        for (int i = 0; i < heights.length; i++) {
            squares |= verticalStroke(i, heights[i]);
        }
        return squares;
    }

    private static long square(int i, int level) {
        return 1L << (i * 6 + level);
    }

    private static int least(List<Long> strokes, long squares) {
        int least = strokes.size();
        for (int choice = 0; choice < 1 << strokes.size(); choice++) {
            long painted = 0;
            for (int i = 0; i < strokes.size(); i++) {
                if ((choice >> i & 1) == 1) {
                    painted |= strokes.get(i);
                }
            }
            if (painted == squares) {
                least = Math.min(least, Integer.bitCount(choice));
            }
        }
        return least;
    }

    private StrokesTest() {
    }
}
