/** The promises 2 to 9, what happens, with ordinary inputs; the limits and the refused calls are in PromisesTest. */
final class HappeningsTest {

    private static final int NONE = CashAllocator.NONE;

    public static void main(String[] args) {
        billsAreNumberedInTheirOrder();
        discountIsRoundedDown();
        discountEndsWithItsLastDay();

        namedBillsGoByRisingNumbers();
        namedBillsAreThoseOfTheCustomer();
        unknownPayerIsFoundByTheFirstOpenBill();
        unknownPayerStaysUnknownWithoutOpenBill();
        shortSumLeadsToDispute();
        disputesOfOneBillAreJoined();
        billWithNothingDueIsPaidWithNothing();
        exactSetComesAheadOfTheOldest();
        exactSetFollowsTheNamedBills();
        oldestBillsComeLast();
        partOfAnOldBillIsNoDispute();
        oneCentIsEnoughForEachStep();
        fullBooksAreGoneThroughToTheirEnd();

        assignDoesTheStepsTwoAndThree();
        applyDoesTheStepsTwoAndThreeAgain();
        payBackPaysTheRest();
        bounceUndoesPaymentsAndDiscounts();
        bounceCountsEachBillOnce();
        bounceEndsItsOwnDisputes();
        bounceLeavesWhatIsSettled();
        bounceLeavesDisputesOfOthers();
        settleOpensOrWritesOff();
        advanceLetsDaysPass();
        Check.finish();
    }

    // ---- promise 2

    private static void billsAreNumberedInTheirOrder() {
        CashAllocator x = new CashAllocator();
        for (int number = 0; number < 40; number++) {
            Check.same("bill", x.bill(number % 8, 100 + number, 1, 0, 0), number);
            Check.same("bills()", x.bills(), number + 1);
            Check.same("open", x.open(number), 100 + number);
        }
    }

    private static void discountIsRoundedDown() {
        CashAllocator x = new CashAllocator();
        x.bill(0, 999, 1, 333, 0);
        Check.same("due with 33.26 off", x.due(0), 999 - 33);
        x.bill(0, 1000000, 1, 9999, 0);
        Check.same("due with 999900 off", x.due(1), 100);
        x.bill(0, 1, 1, 9999, 0);
        Check.same("due with 0.9999 off", x.due(2), 1);
    }

    private static void discountEndsWithItsLastDay() {
        CashAllocator x = new CashAllocator();
        x.advance(5);
        x.bill(0, 100, 1, 1000, 2);
        x.bill(1, 100, 1, 1000, 0);
        Check.same("due on the day of the bill", x.due(1), 90);
        x.advance(1);
        Check.same("due a day too late", x.due(1), 100);
        x.advance(1);
        Check.same("due on the last day", x.due(0), 90);
        x.advance(1);
        Check.same("due a day later", x.due(0), 100);
        x.receive(0, 100, 1);
        Check.same("paid late", Check.billOf(x, 0), "open 0 paid 100 taken 0 disputed 0 off 0");
    }

    // ---- promise 3

    private static void namedBillsGoByRisingNumbers() {
        CashAllocator x = new CashAllocator();
        x.bill(0, 50, 3, 0, 0);
        x.bill(0, 20, 7, 0, 0);
        x.bill(0, 30, 7, 1000, 0);
        x.bill(0, 40, 7, 0, 0);
        x.receive(0, 60, 7);
        Check.same("another reference", Check.billOf(x, 0), "open 50 paid 0 taken 0 disputed 0 off 0");
        Check.same("first", Check.billOf(x, 1), "open 0 paid 20 taken 0 disputed 0 off 0");
        Check.same("second", Check.billOf(x, 2), "open 0 paid 27 taken 3 disputed 0 off 0");
        Check.same("third", Check.billOf(x, 3), "open 0 paid 13 taken 0 disputed 27 off 0");
        Check.same("unapplied(0)", x.unapplied(0), 0);
    }

    private static void namedBillsAreThoseOfTheCustomer() {
        CashAllocator x = new CashAllocator();
        x.bill(1, 20, 7, 0, 0);
        x.bill(2, 30, 7, 0, 0);
        x.receive(2, 100, 7);
        Check.same("bill of another", x.open(0), 20);
        Check.same("bill of the customer", x.open(1), 0);
        Check.same("unapplied(0)", x.unapplied(0), 70);
    }

    private static void unknownPayerIsFoundByTheFirstOpenBill() {
        CashAllocator x = new CashAllocator();
        x.bill(1, 20, 7, 0, 0);
        x.bill(2, 30, 7, 0, 0);
        x.bill(1, 25, 7, 0, 0);
        x.bill(2, 5, 8, 0, 0);
        x.receive(1, 20, 0);
        Check.same("receive", x.receive(NONE, 32, 7), 1);
        Check.same("customerOf(1)", x.customerOf(1), 2);
        Check.same("named bill", x.open(1), 0);
        Check.same("named bill of another", x.open(2), 25);
        Check.same("oldest bill then", Check.billOf(x, 3), "open 3 paid 2 taken 0 disputed 0 off 0");
    }

    private static void unknownPayerStaysUnknownWithoutOpenBill() {
        CashAllocator x = new CashAllocator();
        x.bill(1, 20, 7, 0, 0);
        x.receive(1, 20, 7);
        x.bill(1, 20, 8, 0, 0);
        x.receive(NONE, 20, 7);
        x.receive(NONE, 20, 9);
        x.receive(NONE, 20, 0);
        for (int receipt = 1; receipt <= 3; receipt++) {
            Check.same("customerOf", x.customerOf(receipt), NONE);
            Check.same("unapplied", x.unapplied(receipt), 20);
        }
        Check.same("open(1)", x.open(1), 20);
    }

    private static void shortSumLeadsToDispute() {
        CashAllocator x = new CashAllocator();
        x.bill(0, 100, 7, 200, 0);
        x.receive(0, 97, 7);
        Check.same("a cent short", Check.billOf(x, 0), "open 0 paid 97 taken 0 disputed 3 off 0");
        x.bill(0, 100, 8, 200, 0);
        x.receive(0, 98, 8);
        Check.same("what is due", Check.billOf(x, 1), "open 0 paid 98 taken 2 disputed 0 off 0");
    }

    private static void disputesOfOneBillAreJoined() {
        CashAllocator x = new CashAllocator();
        x.bill(0, 100, 7, 0, 0);
        x.receive(0, 30, 0);
        x.receive(0, 50, 7);
        Check.same("first dispute", x.disputed(0), 20);
        x.bounce(0);
        Check.same("with a new part open", x.open(0), 30);
        x.receive(0, 10, 7);
        Check.same("both", Check.billOf(x, 0), "open 0 paid 60 taken 0 disputed 40 off 0");
        x.bounce(1);
        Check.same("the first is not its own any more", Check.billOf(x, 0), "open 50 paid 10 taken 0 disputed 40 off 0");
        x.bounce(2);
        Check.same("the second ends all", Check.billOf(x, 0), "open 100 paid 0 taken 0 disputed 0 off 0");
    }

    private static void billWithNothingDueIsPaidWithNothing() {
        CashAllocator x = new CashAllocator();
        x.bill(0, 10, 7, 10000, 0);
        x.bill(0, 10, 7, 10000, 0);
        x.bill(0, 5, 9, 0, 0);
        x.bill(0, 10, 8, 10000, 0);
        x.receive(0, 5, 7);
        Check.same("named", Check.billOf(x, 0), "open 0 paid 0 taken 10 disputed 0 off 0");
        Check.same("named too", x.taken(1), 10);
        Check.same("paid with all", x.open(2), 0);
        Check.same("when all is applied", Check.billOf(x, 3), "open 10 paid 0 taken 0 disputed 0 off 0");
        x.receive(0, 1, 0);
        Check.same("by step 3", Check.billOf(x, 3), "open 0 paid 0 taken 10 disputed 0 off 0");
        Check.same("unapplied(1)", x.unapplied(1), 1);
        Check.same("bounce(1)", x.bounce(1), 1);
        Check.same("after it", Check.billOf(x, 3), "open 10 paid 0 taken 0 disputed 0 off 0");
        Check.same("bounce(0)", x.bounce(0), 3);
    }

    private static void exactSetComesAheadOfTheOldest() {
        CashAllocator x = new CashAllocator();
        x.bill(0, 100, 1, 0, 0);
        x.bill(0, 40, 2, 0, 0);
        x.advance(1);
        x.bill(0, 50, 3, 1000, 5);
        x.bill(0, 7, 4, 0, 0);
        x.receive(0, 92, 0);
        Check.same("oldest", x.open(0), 100);
        Check.same("one of the set", x.open(1), 0);
        Check.same("one with discount", Check.billOf(x, 2), "open 0 paid 45 taken 5 disputed 0 off 0");
        Check.same("last of the set", x.open(3), 0);
    }

    private static void exactSetFollowsTheNamedBills() {
        CashAllocator x = new CashAllocator();
        x.bill(0, 100, 1, 0, 0);
        x.bill(0, 40, 2, 0, 0);
        x.bill(0, 30, 9, 0, 0);
        x.receive(0, 70, 9);
        Check.same("oldest", x.open(0), 100);
        Check.same("what the rest pays just in full", x.open(1), 0);
        Check.same("named", x.open(2), 0);
    }

    private static void oldestBillsComeLast() {
        CashAllocator x = new CashAllocator();
        x.bill(1, 5, 1, 0, 0);
        x.bill(0, 50, 1, 0, 0);
        x.advance(1);
        x.bill(0, 60, 1, 1000, 0);
        x.bill(0, 70, 1, 0, 0);
        x.receive(0, 105, 0);
        Check.same("bill of another", x.open(0), 5);
        Check.same("oldest", x.open(1), 0);
        Check.same("next", Check.billOf(x, 2), "open 0 paid 54 taken 6 disputed 0 off 0");
        Check.same("last", Check.billOf(x, 3), "open 69 paid 1 taken 0 disputed 0 off 0");
        x.receive(0, 1000, 5);
        Check.same("unapplied(1)", x.unapplied(1), 931);
    }

    private static void partOfAnOldBillIsNoDispute() {
        CashAllocator x = new CashAllocator();
        x.bill(0, 100, 1, 1000, 50);
        x.receive(0, 30, 0);
        Check.same("part", Check.billOf(x, 0), "open 70 paid 30 taken 0 disputed 0 off 0");
        Check.same("due without discount", x.due(0), 70);
        x.receive(0, 70, 1);
        Check.same("rest", Check.billOf(x, 0), "open 0 paid 100 taken 0 disputed 0 off 0");
    }

    private static void oneCentIsEnoughForEachStep() {
        CashAllocator x = new CashAllocator();
        x.bill(3, 1, 7, 0, 0);
        x.bill(3, 50, 8, 0, 0);
        x.bill(3, 1, 9, 0, 0);
        x.receive(NONE, 2, 7);
        Check.same("customerOf(0)", x.customerOf(0), 3);
        Check.same("a cent that is named", x.open(0), 0);
        Check.same("a cent just in full", x.open(2), 0);
        Check.same("oldest", x.open(1), 50);
        x.bill(4, 1, 6, 0, 0);
        x.bill(4, 50, 6, 0, 0);
        x.receive(NONE, 2, 6);
        Check.same("a cent in part", Check.billOf(x, 4), "open 0 paid 1 taken 0 disputed 49 off 0");
        x.settle(4, false);
        x.receive(4, 1, 0);
        Check.same("a cent for the oldest", Check.billOf(x, 4), "open 48 paid 2 taken 0 disputed 0 off 0");
    }

    private static void fullBooksAreGoneThroughToTheirEnd() {
        CashAllocator x = new CashAllocator();
        for (int number = 0; number < 40; number++) {
            x.bill(0, 2, 1, 0, 0);
        }
        x.receive(0, 1000, 1);
        Check.same("rest of step 1", x.unapplied(0), 920);
        x.bounce(0);
        x.receive(0, 1000, 0);
        Check.same("rest of step 3", x.unapplied(1), 920);
        x.receive(NONE, 10, 2);
        Check.same("unknown reference", x.customerOf(2), NONE);
        Check.same("all are paid", x.openOf(0), 0);
    }

    // ---- promises 4 and 5

    private static void assignDoesTheStepsTwoAndThree() {
        CashAllocator x = new CashAllocator();
        x.bill(0, 100, 1, 0, 0);
        x.bill(0, 30, 2, 0, 0);
        x.receive(NONE, 30, 0);
        Check.same("assign(0, 0)", x.assign(0, 0), 0);
        Check.same("customerOf(0)", x.customerOf(0), 0);
        Check.same("set", x.open(1), 0);
        x.receive(NONE, 110, 9);
        x.bill(3, 1, 9, 0, 0);
        Check.same("assign(1, 0)", x.assign(1, 0), 10);
        Check.same("oldest", x.open(0), 0);
        x.receive(NONE, 5, 0);
        Check.same("assign(2, 7)", x.assign(2, 7), 5);
        x.receive(NONE, 5, 0);
        x.payBack(3);
        Check.same("assign when all is paid back", x.assign(3, 3), 0);
        Check.same("customerOf(3)", x.customerOf(3), 3);
        Check.same("open(2)", x.open(2), 1);
    }

    private static void applyDoesTheStepsTwoAndThreeAgain() {
        CashAllocator x = new CashAllocator();
        x.receive(0, 100, 5);
        x.bill(0, 90, 5, 0, 0);
        x.bill(0, 30, 6, 0, 0);
        x.bill(0, 70, 7, 0, 0);
        Check.same("apply(0)", x.apply(0), 0);
        Check.same("named, but no step 1", x.open(0), 90);
        Check.same("set", x.open(1) + x.open(2), 0);
        Check.same("apply(0) with nothing left", x.apply(0), 0);
        x.receive(0, 100, 0);
        x.bill(0, 4, 6, 5000, 0);
        Check.same("apply(1)", x.apply(1), 8);
        Check.same("taken(3)", x.taken(3), 2);
        x.bill(0, 9, 6, 10000, 0);
        Check.same("apply(0) with nothing left, and a bill with nothing due", x.apply(0), 0);
        Check.same("it is not paid", x.open(4), 9);
        x.payBack(1);
        x.advance(1);
        Check.same("apply(1) after payBack", x.apply(1), 0);
        Check.same("open(4)", x.open(4), 9);
    }

    // ---- promises 6 and 7

    private static void payBackPaysTheRest() {
        CashAllocator x = new CashAllocator();
        x.bill(0, 10, 1, 0, 0);
        x.receive(0, 25, 0);
        x.receive(NONE, 8, 0);
        Check.same("payBack(0)", x.payBack(0), 15);
        Check.same("unapplied(0)", x.unapplied(0), 0);
        Check.same("appliedTo(0, 0)", x.appliedTo(0, 0), 10);
        Check.same("payBack(1), with no customer", x.payBack(1), 8);
        Check.same("paidBack()", x.paidBack(), 23);
    }

    private static void bounceUndoesPaymentsAndDiscounts() {
        CashAllocator x = new CashAllocator();
        x.bill(0, 100, 1, 1000, 3);
        x.bill(0, 100, 2, 0, 0);
        x.receive(0, 150, 1);
        x.receive(0, 10, 0);
        Check.same("bounce(0)", x.bounce(0), 2);
        Check.same("with discount", Check.billOf(x, 0), "open 100 paid 0 taken 0 disputed 0 off 0");
        Check.same("discount again", x.due(0), 90);
        Check.same("in part", Check.billOf(x, 1), "open 90 paid 10 taken 0 disputed 0 off 0");
        Check.same("appliedTo(0, 0)", x.appliedTo(0, 0), 0);
        Check.same("appliedTo(0, 1)", x.appliedTo(0, 1), 0);
        Check.same("unapplied(0)", x.unapplied(0), 0);
        Check.same("customerOf(0)", x.customerOf(0), 0);
        x.receive(0, 90, 0);
        Check.same("paid anew", x.taken(0), 10);
        Check.same("bounce(1)", x.bounce(1), 1);
        Check.same("discount of another", x.taken(0), 10);
    }

    private static void bounceCountsEachBillOnce() {
        CashAllocator x = new CashAllocator();
        x.bill(0, 100, 7, 0, 0);
        x.receive(0, 30, 0);
        x.receive(0, 90, 7);
        Check.same("unapplied(1)", x.unapplied(1), 20);
        x.bounce(0);
        Check.same("apply(1)", x.apply(1), 0);
        Check.same("appliedTo(1, 0)", x.appliedTo(1, 0), 90);
        Check.same("bounce(1)", x.bounce(1), 1);
        Check.same("after both", Check.billOf(x, 0), "open 100 paid 0 taken 0 disputed 0 off 0");
        x.receive(1, 5, 0);
        Check.same("bounce(2) with no bill", x.bounce(2), 0);
        x.receive(NONE, 5, 0);
        Check.same("bounce(3) with no customer", x.bounce(3), 0);
    }

    private static void bounceEndsItsOwnDisputes() {
        CashAllocator x = new CashAllocator();
        x.bill(0, 100, 7, 1000, 0);
        x.receive(0, 80, 7);
        Check.same("disputed(0)", x.disputed(0), 20);
        Check.same("bounce(0)", x.bounce(0), 1);
        Check.same("after it", Check.billOf(x, 0), "open 100 paid 0 taken 0 disputed 0 off 0");
        Check.same("due(0)", x.due(0), 90);
    }

    private static void bounceLeavesWhatIsSettled() {
        CashAllocator x = new CashAllocator();
        x.bill(0, 100, 7, 1000, 9);
        x.receive(0, 80, 7);
        x.settle(0, true);
        Check.same("bounce(0)", x.bounce(0), 1);
        Check.same("written off", Check.billOf(x, 0), "open 80 paid 0 taken 0 disputed 0 off 20");
        Check.same("no discount of a part", x.due(0), 80);
        x.bill(1, 100, 8, 0, 0);
        x.receive(1, 60, 8);
        x.settle(1, false);
        x.receive(1, 10, 8);
        x.bounce(1);
        Check.same("raised anew by another", Check.billOf(x, 1), "open 60 paid 10 taken 0 disputed 30 off 0");
    }

    private static void bounceLeavesDisputesOfOthers() {
        CashAllocator x = new CashAllocator();
        x.bill(0, 100, 7, 0, 0);
        x.receive(0, 30, 0);
        x.receive(0, 50, 7);
        Check.same("bounce(0)", x.bounce(0), 1);
        Check.same("after it", Check.billOf(x, 0), "open 30 paid 50 taken 0 disputed 20 off 0");
    }

    // ---- promises 8 and 9

    private static void settleOpensOrWritesOff() {
        CashAllocator x = new CashAllocator();
        x.bill(0, 100, 7, 0, 0);
        x.receive(0, 80, 7);
        Check.same("settle(0, false)", x.settle(0, false), 20);
        Check.same("opened", Check.billOf(x, 0), "open 20 paid 80 taken 0 disputed 0 off 0");
        x.receive(0, 15, 7);
        Check.same("settle(0, true)", x.settle(0, true), 5);
        Check.same("written off", Check.billOf(x, 0), "open 0 paid 95 taken 0 disputed 0 off 5");
        x.bounce(1);
        x.receive(0, 12, 7);
        Check.same("settle(0, true) again", x.settle(0, true), 3);
        Check.same("written off twice", Check.billOf(x, 0), "open 0 paid 92 taken 0 disputed 0 off 8");
    }

    private static void advanceLetsDaysPass() {
        CashAllocator x = new CashAllocator();
        Check.same("advance(1)", x.advance(1), 1);
        Check.same("advance(100)", x.advance(100), 101);
        Check.same("day()", x.day(), 101);
    }
}
