import java.util.Random;

/** Long runs of drawn calls, always the same ones, on the class and on the reference side by side. */
public final class ReferenceTest {
    private static final int[] ODD = {-1, -2, -9, -50, -51, 8, 9, 10, 11, 12, 39, 40, 41, 50, 51, 52, 100,
        Integer.MAX_VALUE, Integer.MAX_VALUE - 1, Integer.MIN_VALUE, Integer.MIN_VALUE + 1};
    private static final int MOST_CALLS = 512;
    private static final int CALLS_TO_LOOK = 42;

    private final Check check = new Check("ReferenceTest");
    private final Random random = new Random(20261118);
    private HistogramStairs made;
    private Reference due;
    private int run;
    private int call;
    private int tallest;

    public static void main(String[] args) {
        ReferenceTest test = new ReferenceTest();
        for (int run = 0; run < 3000 && test.check.wrongSoFar() == 0; run++) {
            test.drawnRun(run);
        }
        for (int run = 3000; run < 3246 && test.check.wrongSoFar() == 0; run++) {
            test.everyQuestion(run);
        }
        test.check.end();
    }

    /** All methods in turn, with some arguments that are out of range, up to any call of an object's 512. */
    private void drawnRun(int number) {
        begin(number);
        int end = 50 + random.nextInt(MOST_CALLS - CALLS_TO_LOOK - 50 + 1);
        int length = random.nextInt(41);
        for (int i = 0; i < length; i++) {
            compare(0, random.nextInt(due.row.size() + 1), height(), 0);
        }
        while (call < end) {
            // Clearing is seldom, or else most calls would meet a histogram without columns.
            int method = random.nextInt(Calls.NAMES.length);
            if (method == 7 && random.nextInt(10) != 0) {
                method = 0;
            }
            drawnCall(method);
        }
        compareColumns();
    }

    /** A histogram, and every question that can be asked about it; far more calls than 512, so an object for each lot. */
    private void everyQuestion(int number) {
        begin(number);
        int length = number % 41;
        int[] heights = new int[length];
        for (int i = 0; i < length; i++) {
            heights[i] = height();
        }
        for (int method = Calls.CHANGES; method < Calls.NAMES.length; method++) {
            int arguments = Calls.ARGUMENTS[method];
            for (int a = -1; a <= (arguments > 0 ? 52 : -1); a++) {
                build(heights);
                for (int b = -1; b <= (arguments > 1 ? 42 : -1); b++) {
                    if (arguments == 3) {
                        compare(method, a, b, random.nextInt(10));
                    } else {
                        compare(method, a, b, 0);
                    }
                }
            }
        }
    }

    private void build(int[] heights) {
        begin(run);
        for (int i = 0; i < heights.length; i++) {
            compare(0, i, heights[i], 0);
        }
    }

    private void begin(int number) {
        run = number;
        call = 0;
        made = new HistogramStairs();
        due = new Reference();
        // Few different heights make equal columns common, many make them rare.
        tallest = new int[] {1, 2, 3, 5, 10, 50}[number % 6];
    }

    private int height() {
        if (tallest == 50 && random.nextInt(8) == 0) {
            return 50;
        }
        return random.nextInt(tallest + 1);
    }

    private void drawnCall(int method) {
        int n = due.row.size();
        int a = random.nextInt(n + 1);
        int b = random.nextInt(n + 1);
        int c = random.nextInt(9);
        switch (method) {
            case 0: b = height(); break;
            case 2: b = height(); break;
            case 3: c = random.nextInt(2 * tallest + 1) - tallest; break;
            case 5: c = random.nextInt(2); break;
            case 9: a = random.nextInt(12); break;
            case 10: b = random.nextInt(10); break;
            case 11: b = random.nextInt(6); break;
            case 13: b = random.nextInt(6); break;
            case 14: a = random.nextInt(3); break;
            case 15: a = random.nextInt(5); b = random.nextInt(5); break;
            case 17: a = 1 + random.nextInt(50); b = random.nextInt(2); break;
            case 19: a = random.nextInt(tallest + 2); break;
            case 20:
            case 21:
            case 22: a = random.nextInt(2); break;
            default: break;
        }
        if ((method == 3 || method == 4 || method == 5 || method == 12) && a > b && random.nextInt(5) != 0) {
            int first = b;
            b = a;
            a = first;
        }
        a = maybeOdd(a);
        b = maybeOdd(b);
        c = maybeOdd(c);
        compare(method, a, b, c);
    }

    private int maybeOdd(int argument) {
        return random.nextInt(30) == 0 ? ODD[random.nextInt(ODD.length)] : argument;
    }

    private void compare(int method, int a, int b, int c) {
        call++;
        check.due("run " + run + ", call " + call + " on " + due.row + ": " + Calls.text(method, a, b, c),
                Calls.on(made, method, a, b, c), Calls.on(due, method, a, b, c));
    }

    /** What the calls have left, looked at by the plainest questions. */
    private void compareColumns() {
        String where = "run " + run + ", after call " + call + ": ";
        check.due(where + "told(0)", made.told(0), due.row.size());
        check.due(where + "told(11)", made.told(11), due.told(11));
        for (int i = 0; i < due.row.size(); i++) {
            check.due(where + "column(" + i + ", 0)", made.column(i, 0), due.row.get(i));
        }
    }
}
