import java.util.ArrayList;
import java.util.List;

/** The document's words taken one by one, with no thought of speed: what HistogramStairs should answer. */
public final class Reference {
    static final int BAD = -1, STATE = -2, FULL = -3, NONE = -9;

    List<Integer> row = new ArrayList<>();
    private final List<List<Integer>> states = new ArrayList<>();
    private final List<List<Integer>> images = new ArrayList<>();

    Reference() {
        images.add(null);
        images.add(null);
    }

    // ---- changes

    int insert(int at, int height) {
        if (at < 0 || at > n() || height < 0 || height > 50) return BAD;
        if (n() == 40) return FULL;
        change();
        row.add(at, height);
        return n();
    }

    int remove(int i) {
        if (no(i)) return BAD;
        change();
        return row.remove(i);
    }

    int set(int i, int height) {
        if (no(i) || height < 0 || height > 50) return BAD;
        change();
        return row.set(i, height);
    }

    int raise(int a, int b, int by) {
        if (noRange(a, b) || by < -50 || by > 50) return BAD;
        change();
        List<Integer> next = new ArrayList<>(row);
        for (int i = a; i <= b; i++) {
            int height = row.get(i) + by;
            if (height < 0) height = 0;
            if (height > 50) height = 50;
            next.set(i, height);
        }
        return replace(next);
    }

    int reverse(int a, int b) {
        if (noRange(a, b)) return BAD;
        change();
        List<Integer> next = new ArrayList<>(row);
        for (int i = a; i <= b; i++) next.set(i, row.get(b - (i - a)));
        return replace(next);
    }

    int sort(int a, int b, int up) {
        if (noRange(a, b) || up < 0 || up > 1) return BAD;
        change();
        int pairs = 0;
        for (int i = a; i <= b; i++) {
            for (int j = i + 1; j <= b; j++) {
                if (up == 1 && row.get(i) > row.get(j)) pairs++;
                if (up == 0 && row.get(i) < row.get(j)) pairs++;
            }
        }
        List<Integer> part = new ArrayList<>(row.subList(a, b + 1));
        part.sort(up == 1 ? null : java.util.Comparator.reverseOrder());
        for (int i = a; i <= b; i++) row.set(i, part.get(i - a));
        return pairs;
    }

    int freeze() {
        change();
        int water = water(row);
        List<Integer> next = new ArrayList<>();
        for (int i = 0; i < n(); i++) next.add(row.get(i) + depth(row, i));
        row = next;
        return water;
    }

    int clear() {
        change();
        int count = n();
        row = new ArrayList<>();
        return count;
    }

    int undo() {
        if (states.isEmpty()) return STATE;
        row = states.remove(states.size() - 1);
        return states.size();
    }

    // ---- the histogram

    int told(int what) {
        int count = 0;
        switch (what) {
            case 0: return n();
            case 1: return row.stream().mapToInt(Integer::intValue).sum();
            case 2: return row.stream().mapToInt(Integer::intValue).max().orElse(0);
            case 3: return water(row);
            case 4: return pools().size();
            case 5: return maximal(0, n() - 1).size();
            case 6:
                for (int i = 0; i < n(); i++) if (i == 0 || row.get(i) > greatest(row, 0, i - 1)) count++;
                return count;
            case 7:
                for (int i = 0; i < n(); i++) if (i == n() - 1 || row.get(i) > greatest(row, i + 1, n() - 1)) count++;
                return count;
            case 8:
                if (n() == 0) return NONE;
                for (int i = 0; i < n(); i++) count = Math.max(count, treePath(i).size() - 1);
                return count;
            case 9:
                for (int level = 1; level <= 50; level++) count += runs(level);
                return count;
            case 10: return strokes(0, n() - 1, 0);
            case 11: return states.size();
            default: return BAD;
        }
    }

    int column(int i, int what) {
        if (no(i) || what < 0 || what > 9) return BAD;
        switch (what) {
            case 0: return row.get(i);
            case 1:
                for (int j = i - 1; j >= 0; j--) if (row.get(j) < row.get(i)) return j;
                return NONE;
            case 2:
                for (int j = i + 1; j < n(); j++) if (row.get(j) < row.get(i)) return j;
                return NONE;
            case 3:
                for (int j = i - 1; j >= 0; j--) if (row.get(j) > row.get(i)) return j;
                return NONE;
            case 4:
                for (int j = i + 1; j < n(); j++) if (row.get(j) > row.get(i)) return j;
                return NONE;
            case 5: return depth(row, i);
            case 6:
                List<Integer> path = treePath(i);
                return path.size() == 1 ? NONE : path.get(path.size() - 2);
            case 7: return treePath(i).size() - 1;
            case 8:
                int longest = 0;
                for (int a = 0; a <= i; a++) {
                    for (int b = i; b < n(); b++) {
                        if (least(a, b) == row.get(i)) longest = Math.max(longest, b - a + 1);
                    }
                }
                return longest;
            default: return stairOf(i).size();
        }
    }

    int stair(int i, int k) {
        if (no(i) || k < 0) return BAD;
        List<Integer> stair = stairOf(i);
        return k < stair.size() ? stair.get(k) : NONE;
    }

    int range(int a, int b, int what) {
        if (noRange(a, b) || what < 0 || what > 8) return BAD;
        int sum = 0;
        switch (what) {
            case 0: return least(a, b);
            case 1:
                for (int i = a; i <= b; i++) if (row.get(i) == least(a, b)) return i;
                return BAD;
            case 2: return greatest(row, a, b);
            case 3:
                for (int i = a; i <= b; i++) if (row.get(i) == greatest(row, a, b)) return i;
                return BAD;
            case 4:
                for (int i = a; i <= b; i++) sum += row.get(i);
                return sum;
            default:
                int[] best = largest(a, b);
                if (best == null) return what == 5 ? 0 : NONE;
                return best[what - 5];
        }
    }

    int rectangle(int k, int what) {
        if (k < 0 || what < 0 || what > 5) return BAD;
        List<int[]> all = maximal(0, n() - 1);
        if (k >= all.size()) return NONE;
        int[] chosen = all.get(k);
        if (what <= 3) return chosen[what];
        List<Integer> owners = new ArrayList<>();
        for (int i = chosen[1]; i <= chosen[2]; i++) if (row.get(i) == chosen[3]) owners.add(i);
        return what == 4 ? owners.size() : owners.get(0);
    }

    int container(int what) {
        if (what < 0 || what > 2) return BAD;
        if (n() < 2) return NONE;
        int[] best = {-1, 0, 0};
        for (int i = n() - 2; i >= 0; i--) {
            for (int j = n() - 1; j > i; j--) {
                int product = Math.min(row.get(i), row.get(j)) * (j - i);
                if (product >= best[0]) best = new int[] {product, i, j};
            }
        }
        return best[what];
    }

    // ---- water

    int pool(int k, int what) {
        if (k < 0 || what < 0 || what > 4) return BAD;
        List<int[]> pools = pools();
        if (k >= pools.size()) return NONE;
        int first = pools.get(k)[0];
        int last = pools.get(k)[1];
        int sum = 0;
        int deepest = 0;
        for (int i = first; i <= last; i++) {
            sum += depth(row, i);
            deepest = Math.max(deepest, depth(row, i));
        }
        return new int[] {first, last, sum, row.get(last) + depth(row, last), deepest}[what];
    }

    int drained(int i) {
        if (no(i)) return BAD;
        return water(row) - water(row.subList(0, i + 1)) - water(row.subList(i, n()));
    }

    int dam(int d, int what) {
        if (d < 1 || d > 50 || what < 0 || what > 1) return BAD;
        if (n() == 0) return STATE;
        int best = 0;
        int most = 0;
        for (int i = n() - 1; i >= 0; i--) {
            List<Integer> raised = new ArrayList<>(row);
            raised.set(i, Math.min(50, row.get(i) + d));
            if (water(raised) >= most) {
                most = water(raised);
                best = i;
            }
        }
        return what == 0 ? best : most;
    }

    // ---- all ranges

    int sumOfMinima() {
        int sum = 0;
        for (int a = 0; a < n(); a++) for (int b = a; b < n(); b++) sum += least(a, b);
        return sum;
    }

    int ranges(int low) {
        if (low < 0 || low > 50) return BAD;
        int count = 0;
        for (int a = 0; a < n(); a++) for (int b = a; b < n(); b++) if (least(a, b) >= low) count++;
        return count;
    }

    // ---- images

    int keep(int i) {
        if (i < 0 || i > 1) return BAD;
        images.set(i, new ArrayList<>(row));
        return n();
    }

    int back(int i) {
        if (i < 0 || i > 1) return BAD;
        if (images.get(i) == null) return STATE;
        change();
        row = new ArrayList<>(images.get(i));
        return n();
    }

    int parting(int i) {
        if (i < 0 || i > 1) return BAD;
        if (images.get(i) == null) return STATE;
        List<Integer> image = images.get(i);
        for (int j = 0; j < Math.max(n(), image.size()); j++) {
            if (j >= n() || j >= image.size() || !row.get(j).equals(image.get(j))) return j;
        }
        return NONE;
    }

    // ---- the document's words

    private int n() {
        return row.size();
    }

    private boolean no(int i) {
        return i < 0 || i >= n();
    }

    private boolean noRange(int a, int b) {
        return no(a) || no(b) || b < a;
    }

    private void change() {
        states.add(new ArrayList<>(row));
        if (states.size() > 8) states.remove(0);
    }

    private int replace(List<Integer> next) {
        int different = 0;
        for (int i = 0; i < n(); i++) if (!row.get(i).equals(next.get(i))) different++;
        row = next;
        return different;
    }

    private int least(int a, int b) {
        int least = row.get(a);
        for (int i = a; i <= b; i++) least = Math.min(least, row.get(i));
        return least;
    }

    private static int greatest(List<Integer> list, int a, int b) {
        int greatest = list.get(a);
        for (int i = a; i <= b; i++) greatest = Math.max(greatest, list.get(i));
        return greatest;
    }

    private static int depth(List<Integer> list, int i) {
        return Math.min(greatest(list, 0, i), greatest(list, i, list.size() - 1)) - list.get(i);
    }

    private static int water(List<Integer> list) {
        int sum = 0;
        for (int i = 0; i < list.size(); i++) sum += depth(list, i);
        return sum;
    }

    private List<int[]> pools() {
        List<int[]> pools = new ArrayList<>();
        for (int a = 0; a < n(); a++) {
            for (int b = a; b < n(); b++) {
                if (wet(a, b) && !(a > 0 && wet(a - 1, b)) && !(b + 1 < n() && wet(a, b + 1))) {
                    pools.add(new int[] {a, b});
                }
            }
        }
        return pools;
    }

    private boolean wet(int a, int b) {
        for (int i = a; i <= b; i++) if (depth(row, i) == 0) return false;
        return true;
    }

    private List<Integer> stairOf(int i) {
        List<Integer> stair = new ArrayList<>();
        for (int at = i; at != NONE; at = column(at, 1)) stair.add(at);
        return stair;
    }

    /** The columns from the tree's root to a column. */
    private List<Integer> treePath(int i) {
        List<Integer> path = new ArrayList<>();
        int a = 0;
        int b = n() - 1;
        while (true) {
            int root = range(a, b, 1);
            path.add(root);
            if (root == i) return path;
            if (i < root) b = root - 1; else a = root + 1;
        }
    }

    /** The maximal rectangles of a range alone, in their order: area, first column, last column, height. */
    private List<int[]> maximal(int from, int to) {
        List<int[]> found = new ArrayList<>();
        for (int a = from; a <= to; a++) {
            for (int b = a; b <= to; b++) {
                int height = least(a, b);
                boolean longer = a > from && least(a - 1, b) == height || b < to && least(a, b + 1) == height;
                if (height >= 1 && !longer) found.add(new int[] {height * (b - a + 1), a, b, height});
            }
        }
        found.sort((x, y) -> x[0] != y[0] ? y[0] - x[0] : x[1] != y[1] ? x[1] - y[1] : x[2] - y[2]);
        return found;
    }

    /** The largest of all rectangles in a range, maximal or not. */
    private int[] largest(int from, int to) {
        int[] best = null;
        for (int a = from; a <= to; a++) {
            for (int b = a; b <= to; b++) {
                int height = least(a, b);
                int area = height * (b - a + 1);
                if (height >= 1 && (best == null || area > best[0])) best = new int[] {area, a, b, height};
            }
        }
        return best;
    }

    private int runs(int level) {
        int runs = 0;
        for (int i = 0; i < n(); i++) {
            if (row.get(i) >= level && (i == 0 || row.get(i - 1) < level)) runs++;
        }
        return runs;
    }

    private int strokes(int a, int b, int below) {
        if (a > b) return 0;
        int root = range(a, b, 1);
        int horizontal = row.get(root) - below
                + strokes(a, root - 1, row.get(root)) + strokes(root + 1, b, row.get(root));
        return Math.min(horizontal, b - a + 1);
    }
}
