/** Counts the answers of one test, prints those that are not as due, and ends it with exit code 1 if there were any. */
public final class Check {
    private final String name;
    private final int mostPrinted;
    private int checked = 0;
    private int wrong = 0;

    public Check(String name) {
        this(name, 50);
    }

    public Check(String name, int mostPrinted) {
        this.name = name;
        this.mostPrinted = mostPrinted;
    }

    public void due(String call, long got, long want) {
        checked++;
        if (got != want) {
            tell(call + " answered " + got + ", due is " + want);
        }
    }

    public void same(String what, String got, String want) {
        checked++;
        if (!got.equals(want)) {
            tell(what + " are " + got + ", due are " + want);
        }
    }

    public void yes(String what, boolean holds) {
        checked++;
        if (!holds) {
            tell("does not hold: " + what);
        }
    }

    public int checkedSoFar() {
        return checked;
    }

    public int wrongSoFar() {
        return wrong;
    }

    public void end() {
        System.out.println(name + ": " + checked + " answers, " + wrong + " wrong");
        if (wrong != 0 || checked == 0) {
            System.exit(1);
        }
    }

    private void tell(String line) {
        wrong++;
        if (wrong <= mostPrinted) {
            System.out.println(name + ": " + line);
        }
    }
}
