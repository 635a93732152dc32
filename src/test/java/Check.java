/** Counts the answers that are not the ones that are due. */
final class Check {

    /** A call whose answer is asked for. */
    interface Call {
        long answer();
    }

    private static int wrong = 0;

    private Check() {
    }

    static void same(String what, long got, long want) {
        if (got != want) {
            report(what + " answered " + got + ", due is " + want);
        }
    }

    static void same(String what, boolean got, boolean want) {
        same(what, got ? 1 : 0, want ? 1 : 0);
    }

    static void same(String what, String got, String want) {
        if (!got.equals(want)) {
            report(what + ": " + got + ", due is " + want);
        }
    }

    /** What became of a bill, in one line. */
    static String billOf(CashAllocator x, int bill) {
        return "open " + x.open(bill) + " paid " + x.paid(bill) + " taken " + x.taken(bill)
            + " disputed " + x.disputed(bill) + " off " + x.writtenOff(bill);
    }

    static void finish() {
        System.out.println(wrong == 0 ? "all answers are as due" : wrong + " answers are not as due");
        if (wrong != 0) {
            System.exit(1);
        }
    }

    static void report(String line) {
        wrong++;
        System.out.println(line);
    }
}
