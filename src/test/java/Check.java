/** Counts the answers that are not the ones that are due. */
final class Check {

    /** A call whose answer is asked for. */
    interface Call {
        long answer();
    }

    private static int wrong = 0;

    private Check() {
    }

    static void same(String what, long got, long want) {
        if (got != want) {
            report(what + " answered " + got + ", due is " + want);
        }
    }

    static void same(String what, boolean got, boolean want) {
        same(what, got ? 1 : 0, want ? 1 : 0);
    }

    static void same(String what, String got, String want) {
        if (!got.equals(want)) {
            report(what + ": " + got + ", due is " + want);
        }
    }

    /** The call throws an exception of just this class, and changes nothing of x. */
    static void refuses(CashAllocator x, String what, Class<? extends RuntimeException> kind, Call call) {
        String before = stateOf(x);
        try {
            report(what + " answered " + call.answer() + ", due is " + kind.getSimpleName());
        } catch (RuntimeException thrown) {
            if (thrown.getClass() != kind) {
                report(what + " threw " + thrown + ", due is " + kind.getSimpleName());
            }
        }
        same("state after " + what, stateOf(x), before);
    }

    static void refusesIndex(CashAllocator x, String what, Call call) {
        refuses(x, what, IndexOutOfBoundsException.class, call);
    }

    static void refusesArgument(CashAllocator x, String what, Call call) {
        refuses(x, what, IllegalArgumentException.class, call);
    }

    static void refusesState(CashAllocator x, String what, Call call) {
        refuses(x, what, IllegalStateException.class, call);
    }

    /** What the cheap questions tell of an object: all but setFor and, in a large object, appliedTo. */
    static String stateOf(CashAllocator x) {
        StringBuilder state = new StringBuilder();
        state.append("day ").append(x.day()).append(", ").append(x.received()).append(" = ").append(x.applied());
        state.append(" + ").append(x.allUnapplied()).append(" + ").append(x.paidBack()).append(" + ").append(x.bounced());
        boolean isSmall = x.bills() * x.receipts() <= 20;
        for (int bill = 0; bill < x.bills() && x.bills() <= 20; bill++) {
            state.append("; bill ").append(x.open(bill)).append(' ').append(x.due(bill)).append(' ').append(x.paid(bill));
            state.append(' ').append(x.taken(bill)).append(' ').append(x.disputed(bill)).append(' ').append(x.writtenOff(bill));
        }
        for (int receipt = 0; receipt < x.receipts(); receipt++) {
            state.append("; receipt ").append(x.customerOf(receipt)).append(' ').append(x.unapplied(receipt));
            state.append(' ').append(x.hasBounced(receipt));
            for (int bill = 0; isSmall && bill < x.bills(); bill++) {
                state.append(' ').append(x.appliedTo(receipt, bill));
            }
        }
        return state.append("; bills ").append(x.bills()).append(", receipts ").append(x.receipts()).toString();
    }

    /** What became of a bill, in one line. */
    static String billOf(CashAllocator x, int bill) {
        return "open " + x.open(bill) + " paid " + x.paid(bill) + " taken " + x.taken(bill)
            + " disputed " + x.disputed(bill) + " off " + x.writtenOff(bill);
    }

    static void finish() {
        System.out.println(wrong == 0 ? "all answers are as due" : wrong + " answers are not as due");
        if (wrong != 0) {
            System.exit(1);
        }
    }

    private static void report(String line) {
        wrong++;
        System.out.println(line);
    }
}
