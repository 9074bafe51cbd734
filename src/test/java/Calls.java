/** Every method by a number, so that a test can make any call on the class and on the reference alike. */
public final class Calls {
    static final String[] NAMES = {
        "insert", "remove", "set", "raise", "reverse", "sort", "freeze", "clear", "undo", "told", "column", "stair",
        "range", "rectangle", "container", "pool", "drained", "dam", "sumOfMinima", "ranges", "keep", "back",
        "parting"};
    static final int[] ARGUMENTS = {2, 1, 2, 3, 2, 3, 0, 0, 0, 1, 2, 2, 3, 2, 1, 2, 1, 2, 0, 1, 1, 1, 1};
    static final int CHANGES = 9;

    static int on(HistogramStairs x, int method, int a, int b, int c) {
        switch (method) {
            case 0: return x.insert(a, b);
            case 1: return x.remove(a);
            case 2: return x.set(a, b);
            case 3: return x.raise(a, b, c);
            case 4: return x.reverse(a, b);
            case 5: return x.sort(a, b, c);
            case 6: return x.freeze();
            case 7: return x.clear();
            case 8: return x.undo();
            case 9: return x.told(a);
            case 10: return x.column(a, b);
            case 11: return x.stair(a, b);
            case 12: return x.range(a, b, c);
            case 13: return x.rectangle(a, b);
            case 14: return x.container(a);
            case 15: return x.pool(a, b);
            case 16: return x.drained(a);
            case 17: return x.dam(a, b);
            case 18: return x.sumOfMinima();
            case 19: return x.ranges(a);
            case 20: return x.keep(a);
            case 21: return x.back(a);
            default: return x.parting(a);
        }
    }

    static int on(Reference x, int method, int a, int b, int c) {
        switch (method) {
            case 0: return x.insert(a, b);
            case 1: return x.remove(a);
            case 2: return x.set(a, b);
            case 3: return x.raise(a, b, c);
            case 4: return x.reverse(a, b);
            case 5: return x.sort(a, b, c);
            case 6: return x.freeze();
            case 7: return x.clear();
            case 8: return x.undo();
            case 9: return x.told(a);
            case 10: return x.column(a, b);
            case 11: return x.stair(a, b);
            case 12: return x.range(a, b, c);
            case 13: return x.rectangle(a, b);
            case 14: return x.container(a);
            case 15: return x.pool(a, b);
            case 16: return x.drained(a);
            case 17: return x.dam(a, b);
            case 18: return x.sumOfMinima();
            case 19: return x.ranges(a);
            case 20: return x.keep(a);
            case 21: return x.back(a);
            default: return x.parting(a);
        }
    }

    /** Makes a call that is written as in Java. */
    static int on(HistogramStairs x, String text) {
        int open = text.indexOf('(');
        int method = java.util.Arrays.asList(NAMES).indexOf(text.substring(0, open));
        String list = text.substring(open + 1, text.length() - 1);
        String[] given = list.isEmpty() ? new String[0] : list.split(", ");
        if (method < 0 || given.length != ARGUMENTS[method]) {
            throw new IllegalArgumentException("there is no call like " + text);
        }
        int[] arguments = new int[3];
        for (int i = 0; i < given.length; i++) {
            arguments[i] = Integer.parseInt(given[i]);
        }
        return on(x, method, arguments[0], arguments[1], arguments[2]);
    }

    static String text(int method, int a, int b, int c) {
        int[] given = {a, b, c};
        StringBuilder text = new StringBuilder(NAMES[method]).append('(');
        for (int i = 0; i < ARGUMENTS[method]; i++) {
            text.append(i == 0 ? "" : ", ").append(given[i]);
        }
        return text.append(')').toString();
    }

    private Calls() {
    }
}
