/**
 * The promises 10 to 29, bills, receipts and sums, with ordinary inputs; the limits and the refused calls are in
 * PromisesTest.
 */
final class AnswersTest {

    private static final int NONE = CashAllocator.NONE;

    public static void main(String[] args) {
        tellsOfBills();
        addsWhatIsOpenOfACustomer();
        choosesTheSetWithTheFewestBills();
        choosesTheSetWithTheLowestNumbers();
        choosesOfOpenBillsOfTheCustomerAlone();
        choosesByWhatIsDueNow();
        choosesAmongFortyBills();
        tellsOfReceipts();
        addsUpEveryCent();
        addsUpTheGreatestSums();
        Check.finish();
    }

    /** Three bills and three receipts: a discount, a dispute that is accepted, and one that is open. */
    private static CashAllocator threeOfEach() {
        CashAllocator x = new CashAllocator();
        x.bill(0, 100, 1, 1000, 5);
        x.bill(1, 200, 2, 0, 0);
        x.bill(1, 300, 3, 0, 0);
        x.receive(0, 95, 1);
        x.receive(1, 180, 2);
        x.receive(NONE, 250, 3);
        x.settle(1, true);
        return x;
    }

    // ---- promises 10 to 18

    private static void tellsOfBills() {
        CashAllocator x = threeOfEach();
        Check.same("bills()", x.bills(), 3);
        Check.same("bill 0", Check.billOf(x, 0), "open 0 paid 90 taken 10 disputed 0 off 0");
        Check.same("bill 1", Check.billOf(x, 1), "open 0 paid 180 taken 0 disputed 0 off 20");
        Check.same("bill 2", Check.billOf(x, 2), "open 0 paid 250 taken 0 disputed 50 off 0");
        Check.same("due of a bill that is not open", x.due(0), 0);
        x.settle(2, false);
        Check.same("open(2)", x.open(2), 50);
        Check.same("due(2)", x.due(2), 50);
    }

    private static void addsWhatIsOpenOfACustomer() {
        CashAllocator x = new CashAllocator();
        x.bill(0, 100, 1, 1000, 5);
        x.bill(7, 20, 1, 0, 0);
        x.bill(0, 50, 2, 0, 0);
        Check.same("openOf(0), without discounts", x.openOf(0), 150);
        Check.same("openOf(7)", x.openOf(7), 20);
        Check.same("openOf(3)", x.openOf(3), 0);
        x.receive(0, 30, 2);
        Check.same("openOf(0) without the dispute", x.openOf(0), 100);
    }

    private static void expectSet(CashAllocator x, int customer, int sum, int low, int middle, int high) {
        Check.same("setFor " + sum + " place 0", x.setFor(customer, sum, 0), low);
        Check.same("setFor " + sum + " place 1", x.setFor(customer, sum, 1), middle);
        Check.same("setFor " + sum + " place 2", x.setFor(customer, sum, 2), high);
    }

    private static void choosesTheSetWithTheFewestBills() {
        CashAllocator x = new CashAllocator();
        x.bill(0, 1, 1, 0, 0);
        x.bill(0, 2, 1, 0, 0);
        x.bill(0, 3, 1, 0, 0);
        x.bill(0, 5, 1, 0, 0);
        x.bill(0, 6, 1, 0, 0);
        expectSet(x, 0, 6, 4, NONE, NONE);
        expectSet(x, 0, 8, 1, 4, NONE);
        expectSet(x, 0, 10, 0, 2, 4);
        expectSet(x, 0, 14, 2, 3, 4);
        expectSet(x, 0, 17, NONE, NONE, NONE);
        expectSet(x, 0, 15, NONE, NONE, NONE);
        expectSet(x, 0, Integer.MAX_VALUE, NONE, NONE, NONE);
    }

    private static void choosesTheSetWithTheLowestNumbers() {
        CashAllocator x = new CashAllocator();
        int[] amounts = {9, 1, 4, 5, 4, 5, 1, 20, 20};
        for (int amount : amounts) {
            x.bill(0, amount, 1, 0, 0);
        }
        expectSet(x, 0, 20, 7, NONE, NONE);
        expectSet(x, 0, 4, 2, NONE, NONE);
        expectSet(x, 0, 6, 1, 3, NONE);
        expectSet(x, 0, 10, 0, 1, NONE);
        expectSet(x, 0, 11, 0, 1, 6);
        expectSet(x, 0, 15, 0, 1, 3);
        expectSet(x, 0, 18, 0, 2, 3);
        x.receive(0, 11, 0);
        Check.same("step 2 takes this set", x.open(0) + x.open(1) + x.open(6), 0);
    }

    private static void choosesOfOpenBillsOfTheCustomerAlone() {
        CashAllocator x = new CashAllocator();
        x.bill(1, 10, 1, 0, 0);
        x.bill(0, 10, 1, 0, 0);
        x.bill(0, 10, 2, 0, 0);
        x.bill(0, 30, 3, 0, 0);
        expectSet(x, 0, 10, 1, NONE, NONE);
        x.receive(0, 10, 0);
        expectSet(x, 0, 10, 2, NONE, NONE);
        expectSet(x, 0, 20, NONE, NONE, NONE);
        x.receive(0, 25, 3);
        expectSet(x, 0, 15, NONE, NONE, NONE);
        x.settle(3, false);
        expectSet(x, 0, 15, 2, 3, NONE);
        expectSet(x, 2, 10, NONE, NONE, NONE);
    }

    private static void choosesByWhatIsDueNow() {
        CashAllocator x = new CashAllocator();
        x.bill(0, 100, 1, 1000, 1);
        x.bill(0, 50, 1, 10000, 1);
        x.bill(0, 10, 1, 0, 0);
        expectSet(x, 0, 90, 0, NONE, NONE);
        expectSet(x, 0, 100, 0, 2, NONE);
        expectSet(x, 0, 150, NONE, NONE, NONE);
        x.advance(2);
        expectSet(x, 0, 90, NONE, NONE, NONE);
        expectSet(x, 0, 100, 0, NONE, NONE);
        expectSet(x, 0, 160, 0, 1, 2);
    }

    private static void choosesAmongFortyBills() {
        CashAllocator x = new CashAllocator();
        for (int number = 0; number < 37; number++) {
            x.bill(5, 1000000, 1, 0, 0);
        }
        x.bill(5, 1, 1, 0, 0);
        x.bill(5, 2, 1, 0, 0);
        x.bill(5, 4, 1, 0, 0);
        expectSet(x, 5, 7, 37, 38, 39);
        expectSet(x, 5, 4, 39, NONE, NONE);
        expectSet(x, 5, 3000000, 0, 1, 2);
        expectSet(x, 5, 4000000, NONE, NONE, NONE);
    }

    // ---- promises 19 to 23

    private static void tellsOfReceipts() {
        CashAllocator x = threeOfEach();
        Check.same("receipts()", x.receipts(), 3);
        Check.same("customerOf(0)", x.customerOf(0), 0);
        Check.same("customerOf(2), found by its reference", x.customerOf(2), 1);
        Check.same("appliedTo(0, 0)", x.appliedTo(0, 0), 90);
        Check.same("appliedTo(0, 1)", x.appliedTo(0, 1), 0);
        Check.same("appliedTo(1, 1)", x.appliedTo(1, 1), 180);
        Check.same("appliedTo(2, 2)", x.appliedTo(2, 2), 250);
        Check.same("unapplied(0)", x.unapplied(0), 5);
        Check.same("hasBounced(2)", x.hasBounced(2), false);
        x.bounce(2);
        Check.same("hasBounced(2) then", x.hasBounced(2), true);
        Check.same("hasBounced(1)", x.hasBounced(1), false);
        Check.same("appliedTo(2, 2) then", x.appliedTo(2, 2), 0);
        x.bounce(0);
        Check.same("unapplied(0) then", x.unapplied(0), 0);
    }

    // ---- promises 24 to 29

    private static void expectSums(CashAllocator x, int received, int applied, int unapplied, int back, int bounced) {
        Check.same("received()", x.received(), received);
        Check.same("applied()", x.applied(), applied);
        Check.same("allUnapplied()", x.allUnapplied(), unapplied);
        Check.same("paidBack()", x.paidBack(), back);
        Check.same("bounced()", x.bounced(), bounced);
    }

    private static void addsUpEveryCent() {
        CashAllocator x = threeOfEach();
        expectSums(x, 525, 520, 5, 0, 0);
        Check.same("day()", x.day(), 0);
        x.receive(NONE, 40, 0);
        expectSums(x, 565, 520, 45, 0, 0);
        x.payBack(0);
        expectSums(x, 565, 520, 40, 5, 0);
        x.bounce(2);
        expectSums(x, 565, 270, 40, 5, 250);
        x.bounce(3);
        expectSums(x, 565, 270, 0, 5, 290);
        x.advance(7);
        Check.same("day() then", x.day(), 7);
    }

    private static void addsUpTheGreatestSums() {
        CashAllocator x = new CashAllocator();
        for (int number = 0; number < 40; number++) {
            x.bill(0, 1000000, 1, 0, 0);
        }
        Check.same("openOf(0)", x.openOf(0), 40000000);
        for (int number = 0; number < 30; number++) {
            x.receive(0, 1000000, 1);
        }
        expectSums(x, 30000000, 30000000, 0, 0, 0);
        for (int number = 0; number < 30; number++) {
            Check.same("bounce", x.bounce(number), 1);
        }
        expectSums(x, 30000000, 0, 0, 0, 30000000);
        Check.same("openOf(0) again", x.openOf(0), 40000000);
    }
}
