import java.util.Random;

/**
 * Runs of calls that a fixed seed makes, each call put to the program and to the Ledger. Calls with wrong arguments are
 * put to the program alone, so that a change that they made would show.
 */
final class LedgerTest {

    private static final int RUNS = 1500;
    private static final int MOST_CALLS = 512;
    private static final int QUESTIONS_A_STEP = 6;

    private final Random random;
    private final CashAllocator program = new CashAllocator();
    private final Ledger ledger = new Ledger();
    private final int run;
    private final int customers;
    private final int references;
    private final int highestAmount;
    private final int billsOfTen;
    private int calls = 0;

    private LedgerTest(int run) {
        this.run = run;
        random = new Random(run);
        customers = 1 + random.nextInt(random.nextBoolean() ? 2 : 8);
        references = 1 + random.nextInt(6);
        highestAmount = new int[] {6, 30, 200, 1000000}[random.nextInt(4)];
        billsOfTen = 1 + random.nextInt(5);
    }

    public static void main(String[] args) {
        for (int run = 0; run < RUNS; run++) {
            new LedgerTest(run).go();
        }
        Check.finish();
    }

    private void go() {
        while (calls + 1 + QUESTIONS_A_STEP <= MOST_CALLS) {
            if (random.nextInt(6) == 0) {
                goWrong();
            } else {
                happen();
            }
            for (int question = 0; question < QUESTIONS_A_STEP; question++) {
                ask();
            }
        }
    }

    private void expect(String call, int want, Check.Call answer) {
        calls++;
        long got;
        try {
            got = answer.answer();
        } catch (IllegalStateException thrown) {
            got = Ledger.REFUSED;
        }
        Check.same("run " + run + " call " + calls + ": " + call, got, want);
    }

    private void refuse(Class<? extends RuntimeException> want, String call, Check.Call answer) {
        calls++;
        String got;
        try {
            got = String.valueOf(answer.answer());
        } catch (RuntimeException thrown) {
            got = thrown.getClass().toString();
        }
        Check.same("run " + run + " call " + calls + ": " + call, got, want.toString());
    }

    private int someAmount() {
        return 1 + random.nextInt(highestAmount);
    }

    /** Often just what is due of one to three bills, a cent more or a cent less. */
    private int someSum() {
        if (ledger.bills() == 0 || random.nextInt(4) == 0) {
            return Math.min(1000000, someAmount() * (1 + random.nextInt(3)));
        }
        int sum = random.nextInt(5) == 0 ? random.nextInt(3) - 1 : 0;
        int parts = 1 + random.nextInt(3);
        for (int part = 0; part < parts; part++) {
            sum += ledger.due(someBill());
        }
        return Math.max(1, Math.min(1000000, sum));
    }

    private int someBill() {
        return random.nextInt(ledger.bills());
    }

    private int someReceipt() {
        return random.nextInt(ledger.receipts());
    }

    private int someRate() {
        return new int[] {0, 0, 200, 1000, 3333, 9999, 10000}[random.nextInt(7)];
    }

    private void happen() {
        int kind = random.nextInt(10);
        if (kind < billsOfTen || ledger.bills() == 0) {
            int customer = random.nextInt(customers);
            int amount = someAmount();
            int reference = 1 + random.nextInt(references);
            int rate = someRate();
            int days = random.nextInt(12);
            expect("bill(" + customer + ", " + amount + ", " + reference + ", " + rate + ", " + days + ")",
                ledger.bill(customer, amount, reference, rate, days),
                () -> program.bill(customer, amount, reference, rate, days));
        } else if (kind < 8 || ledger.receipts() == 0) {
            int customer = random.nextInt(3) == 0 ? -1 : random.nextInt(customers);
            int amount = someSum();
            int reference = random.nextBoolean() ? 0 : 1 + random.nextInt(references);
            expect("receive(" + customer + ", " + amount + ", " + reference + ")",
                ledger.receive(customer, amount, reference), () -> program.receive(customer, amount, reference));
        } else {
            change();
        }
    }

    private void change() {
        int receipt = someReceipt();
        int bill = someBill();
        switch (random.nextInt(8)) {
            case 0, 1 -> {
                int customer = random.nextInt(customers);
                expect("assign(" + receipt + ", " + customer + ")", ledger.assign(receipt, customer),
                    () -> program.assign(receipt, customer));
            }
            case 2 -> expect("apply(" + receipt + ")", ledger.apply(receipt), () -> program.apply(receipt));
            case 3 -> expect("payBack(" + receipt + ")", ledger.payBack(receipt), () -> program.payBack(receipt));
            case 4, 5 -> expect("bounce(" + receipt + ")", ledger.bounce(receipt), () -> program.bounce(receipt));
            case 6 -> {
                boolean isAccepted = random.nextBoolean();
                expect("settle(" + bill + ", " + isAccepted + ")", ledger.settle(bill, isAccepted),
                    () -> program.settle(bill, isAccepted));
            }
            default -> {
                int days = 1 + random.nextInt(6);
                expect("advance(" + days + ")", ledger.advance(days), () -> program.advance(days));
            }
        }
    }

    /** Just outside 0 to end - 1, or far outside. */
    private int outside(int end) {
        return new int[] {-1, end, -2, end + 1, Integer.MIN_VALUE, Integer.MAX_VALUE}[random.nextInt(6)];
    }

    private void goWrong() {
        if (random.nextBoolean()) {
            makeWrong();
        } else {
            changeWrong();
        }
    }

    /** What makes a bill or a receipt has one argument that is wrong, and the others are right. */
    private void makeWrong() {
        Class<? extends RuntimeException> index = IndexOutOfBoundsException.class;
        Class<? extends RuntimeException> argument = IllegalArgumentException.class;
        int reference = 1 + random.nextInt(references);
        int amount = new int[] {0, -1, 1000001, Integer.MIN_VALUE, Integer.MAX_VALUE}[random.nextInt(5)];
        switch (random.nextInt(8)) {
            case 0 -> refuse(index, "bill of no customer", () -> program.bill(outside(8), 5, reference, 0, 0));
            case 1 -> refuse(argument, "bill of " + amount, () -> program.bill(0, amount, reference, 0, 0));
            case 2 -> refuse(argument, "bill without reference", () -> program.bill(0, 5, 0, 0, 0));
            case 3 -> refuse(argument, "bill, rate", () -> program.bill(0, 5, reference, outside(10001), 0));
            case 4 -> refuse(argument, "bill, days", () -> program.bill(0, 5, reference, 0, outside(91)));
            case 5 -> refuse(index, "receipt of no customer", () -> program.receive(8, amount, reference));
            case 6 -> refuse(argument, "receipt of " + amount, () -> program.receive(0, amount, reference));
            default -> refuse(argument, "receipt, reference", () -> program.receive(-1, 5, outside(10000)));
        }
    }

    private void changeWrong() {
        Class<? extends RuntimeException> index = IndexOutOfBoundsException.class;
        int receipt = outside(ledger.receipts());
        int bill = outside(ledger.bills());
        switch (random.nextInt(7)) {
            case 0 -> refuse(index, "assign(" + receipt + ", 0)", () -> program.assign(receipt, 0));
            case 1 -> refuse(index, "apply(" + receipt + ")", () -> program.apply(receipt));
            case 2 -> refuse(index, "payBack(" + receipt + ")", () -> program.payBack(receipt));
            case 3 -> refuse(index, "bounce(" + receipt + ")", () -> program.bounce(receipt));
            case 4 -> refuse(index, "settle(" + bill + ", true)", () -> program.settle(bill, true));
            case 5 -> refuse(index, "assign of no customer",
                () -> program.assign(Math.max(0, ledger.receipts() - 1), outside(8)));
            default -> refuse(IllegalArgumentException.class, "advance",
                () -> program.advance(random.nextBoolean() ? 0 : 101 + random.nextInt(3)));
        }
    }

    private void ask() {
        int kind = random.nextInt(24);
        if (kind < 9 && ledger.bills() > 0) {
            askOfBill(kind, someBill());
        } else if (kind < 14 && ledger.receipts() > 0) {
            askOfReceipt(kind, someReceipt());
        } else {
            askOfAll(kind);
        }
    }

    private void askOfBill(int kind, int bill) {
        switch (kind) {
            case 0, 1 -> expect("open(" + bill + ")", ledger.open(bill), () -> program.open(bill));
            case 2, 3 -> expect("due(" + bill + ")", ledger.due(bill), () -> program.due(bill));
            case 4 -> expect("paid(" + bill + ")", ledger.paid(bill), () -> program.paid(bill));
            case 5 -> expect("taken(" + bill + ")", ledger.taken(bill), () -> program.taken(bill));
            case 6, 7 -> expect("disputed(" + bill + ")", ledger.disputed(bill), () -> program.disputed(bill));
            default -> expect("writtenOff(" + bill + ")", ledger.writtenOff(bill), () -> program.writtenOff(bill));
        }
    }

    private void askOfReceipt(int kind, int receipt) {
        switch (kind) {
            case 9 -> expect("customerOf(" + receipt + ")", ledger.customerOf(receipt),
                () -> program.customerOf(receipt));
            case 10 -> expect("unapplied(" + receipt + ")", ledger.unapplied(receipt),
                () -> program.unapplied(receipt));
            case 11 -> expect("hasBounced(" + receipt + ")", ledger.hasBounced(receipt) ? 1 : 0,
                () -> program.hasBounced(receipt) ? 1 : 0);
            default -> {
                if (ledger.bills() > 0) {
                    int bill = someBill();
                    expect("appliedTo(" + receipt + ", " + bill + ")", ledger.appliedTo(receipt, bill),
                        () -> program.appliedTo(receipt, bill));
                }
            }
        }
    }

    private void askOfAll(int kind) {
        int customer = random.nextInt(customers);
        switch (kind) {
            case 14 -> expect("openOf(" + customer + ")", ledger.openOf(customer), () -> program.openOf(customer));
            case 15 -> expect("received()", ledger.received(), program::received);
            case 16 -> expect("applied()", ledger.applied(), program::applied);
            case 17 -> expect("allUnapplied()", ledger.allUnapplied(), program::allUnapplied);
            case 18 -> expect("paidBack()", ledger.paidBack(), program::paidBack);
            case 19 -> expect("bounced()", ledger.bounced(), program::bounced);
            case 20 -> expect("day()", ledger.day(), program::day);
            default -> {
                int sum = someSum();
                int place = random.nextInt(3);
                expect("setFor(" + customer + ", " + sum + ", " + place + ")", ledger.setFor(customer, sum, place),
                    () -> program.setFor(customer, sum, place));
            }
        }
    }
}
