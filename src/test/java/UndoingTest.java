/** The sentences of "Terms" on disputes and bouncing that name a boundary case, each with a run of its own. */
final class UndoingTest {

    public static void main(String[] args) {
        aBillHasAtMostOneDispute();
        aDisputeIsWrittenOff();
        aDisputeIsOpenAgain();
        aDisputeOfACentIsSettled();
        aDisputeIsSettledOnce();
        aBillIsDisputedAgainWhenItsDisputeWasSettled();

        aBounceTakesBackWhatWasPaid();
        aBounceLeavesWhatOthersPaid();
        aBounceTakesBackDiscounts();
        aBounceTakesBackDiscountsOfWhichNothingWasDue();
        aBounceLeavesDiscountsOfOthers();
        aBounceBehindTheLastDayTakesBackDiscounts();
        aBounceEndsItsDisputes();
        aBounceEndsItsDisputesOfSeveralBills();
        aBounceLeavesDisputesOfOthers();
        aBounceLeavesDisputesThatOthersRaisedAnew();
        aBounceLeavesWhatWasWrittenOff();
        aBounceLeavesWhatWasWrittenOffOfAFormerDispute();
        aBounceLeavesWhatWasSettledToOpen();
        aBounceOfAReceiptThatPaidNothing();
        aBounceOfAReceiptWithoutCustomer();
        aBounceOfAReceiptThatPaidWithNothing();
        nothingIsAppliedOrUnappliedOfIt();
        aBounceLeavesOtherReceipts();
        aBounceLetsOthersBeAppliedAgain();
        aReceiptPaysABillAgain();
        Check.finish();
    }

    // ---- disputes

    private static void aBillHasAtMostOneDispute() {
        Run.shows("A bill has at most one dispute, which was raised by a receipt", """
            bill(0, 100, 7, 0, 0) = 0
            receive(0, 30, 0) = 0
            receive(0, 50, 7) = 1
            bounce(0) = 1
            receive(0, 10, 7) = 2
            bill 0: disputed 40
            settle(0, false) = 40
            settle(0, false) throws IllegalStateException
            bill 0: open 40, disputed 0
            bounce(2) = 1
            bill 0: open 50, paid 50, disputed 0
            """);
    }

    private static void aDisputeIsWrittenOff() {
        Run.shows("it can be settled: what is disputed is written off", """
            bill(0, 100, 7, 0, 0) = 0
            receive(0, 80, 7) = 0
            settle(0, true) = 20
            bill 0: open 0, due 0, paid 80, disputed 0, writtenOff 20
            bill(0, 5, 8, 0, 0) = 1
            receive(0, 1, 0) = 1
            bill 0: open 0, paid 80
            bill 1: open 4, paid 1
            """);
    }

    private static void aDisputeIsOpenAgain() {
        Run.shows("it can be settled: or it is open again", """
            bill(0, 100, 7, 0, 0) = 0
            receive(0, 80, 7) = 0
            settle(0, false) = 20
            bill 0: open 20, due 20, paid 80, disputed 0, writtenOff 0
            receive(0, 20, 0) = 1
            bill 0: open 0, paid 100
            """);
    }

    private static void aDisputeOfACentIsSettled() {
        Run.shows("it can be settled (a cent, and all but a cent of the largest amount)", """
            bill(0, 1000000, 7, 0, 0) = 0
            bill(0, 1000000, 8, 0, 0) = 1
            receive(0, 999999, 7) = 0
            receive(0, 1, 8) = 1
            settle(0, true) = 1
            settle(1, true) = 999999
            bill 0: open 0, writtenOff 1
            bill 1: open 0, writtenOff 999999
            """);
    }

    private static void aDisputeIsSettledOnce() {
        Run.shows("if nothing of it is disputed (any more)", """
            bill(0, 100, 7, 0, 0) = 0
            bill(0, 100, 8, 0, 0) = 1
            receive(0, 80, 7) = 0
            receive(0, 80, 8) = 1
            settle(0, true) = 20
            settle(0, true) throws IllegalStateException
            settle(0, false) throws IllegalStateException
            bounce(1) = 1
            settle(1, true) throws IllegalStateException
            bill 0: writtenOff 20
            bill 1: open 100, writtenOff 0
            """);
    }

    private static void aBillIsDisputedAgainWhenItsDisputeWasSettled() {
        Run.shows("it can be settled (again, and what is written off adds up)", """
            bill(0, 100, 7, 0, 0) = 0
            receive(0, 30, 0) = 0
            receive(0, 65, 7) = 1
            settle(0, true) = 5
            bounce(0) = 1
            bill 0: open 30, paid 65, writtenOff 5
            receive(0, 20, 7) = 2
            bill 0: open 0, paid 85, disputed 10, writtenOff 5
            settle(0, true) = 10
            bill 0: open 0, paid 85, disputed 0, writtenOff 15
            """);
    }

    // ---- bouncing

    private static void aBounceTakesBackWhatWasPaid() {
        Run.shows("what it paid of bills is not paid any more (in full and in part, by each step)", """
            bill(0, 100, 7, 0, 0) = 0
            bill(0, 50, 8, 0, 0) = 1
            bill(0, 70, 9, 0, 0) = 2
            receive(0, 110, 7) = 0
            bill 0: open 0, paid 100
            bill 1: open 40, paid 10
            bounce(0) = 2
            bill 0: open 100, paid 0
            bill 1: open 50, paid 0
            receive(0, 120, 8) = 1
            bill 1: open 0, paid 50
            bill 2: open 0, paid 70
            bounce(1) = 2
            bill 1: open 50, paid 0
            bill 2: open 70, paid 0
            """);
    }

    private static void aBounceLeavesWhatOthersPaid() {
        Run.shows("what it paid of bills is not paid any more (what others paid is)", """
            bill(0, 100, 7, 0, 0) = 0
            receive(0, 10, 0) = 0
            receive(0, 20, 0) = 1
            receive(0, 40, 0) = 2
            bounce(1) = 1
            bill 0: open 50, paid 50
            appliedTo(0, 0) = 10
            appliedTo(1, 0) = 0
            appliedTo(2, 0) = 40
            """);
    }

    private static void aBounceTakesBackDiscounts() {
        Run.shows("discounts that were taken with it are not taken any more", """
            bill(0, 100, 7, 1000, 9) = 0
            bill(0, 200, 8, 1000, 9) = 1
            receive(0, 280, 7) = 0
            bill 0: open 0, paid 90, taken 10
            bill 1: open 0, paid 180, taken 20
            bounce(0) = 2
            bill 0: open 100, due 90, paid 0, taken 0
            bill 1: open 200, due 180, paid 0, taken 0
            """);
    }

    private static void aBounceTakesBackDiscountsOfWhichNothingWasDue() {
        Run.shows("discounts that were taken with it are not taken any more (the discount was the whole amount)", """
            bill(0, 100, 7, 10000, 9) = 0
            receive(0, 5, 7) = 0
            bill 0: open 0, paid 0, taken 100
            bounce(0) = 1
            bill 0: open 100, due 0, paid 0, taken 0
            receive(NONE, 5, 7) = 1
            receipt 1: customerOf 0, unapplied 5
            bill 0: open 0, paid 0, taken 100
            """);
    }

    private static void aBounceLeavesDiscountsOfOthers() {
        Run.shows("discounts that were taken with it (those that were taken with others stay)", """
            bill(0, 100, 7, 1000, 9) = 0
            bill(0, 100, 8, 10000, 9) = 1
            receive(0, 40, 0) = 0
            bounce(0) = 1
            receive(0, 91, 7) = 1
            bill 0: open 0, taken 10
            bill 1: open 0, taken 100
            receive(0, 5, 7) = 2
            bounce(2) = 0
            bill 0: open 0, taken 10
            bill 1: open 0, taken 100
            """);
    }

    private static void aBounceBehindTheLastDayTakesBackDiscounts() {
        Run.shows("discounts that were taken with it are not taken any more (and are not due behind their last day)", """
            bill(0, 100, 7, 1000, 2) = 0
            receive(0, 90, 7) = 0
            advance(2) = 2
            bounce(0) = 1
            bill 0: open 100, due 90, taken 0
            receive(0, 90, 7) = 1
            bill 0: open 0, taken 10
            advance(1) = 3
            bounce(1) = 1
            bill 0: open 100, due 100, taken 0
            receive(0, 90, 7) = 2
            bill 0: open 0, paid 90, taken 0, disputed 10
            """);
    }

    private static void aBounceEndsItsDisputes() {
        Run.shows("disputes raised by it that were not settled end, so that what was disputed is open again", """
            bill(0, 100, 7, 1000, 0) = 0
            receive(0, 89, 7) = 0
            bill 0: open 0, disputed 11
            bounce(0) = 1
            bill 0: open 100, due 90, paid 0, disputed 0, writtenOff 0
            settle(0, true) throws IllegalStateException
            """);
    }

    private static void aBounceEndsItsDisputesOfSeveralBills() {
        Run.shows("disputes raised by it end (what was disputed before it too)", """
            bill(0, 50, 6, 0, 0) = 0
            bill(0, 100, 7, 0, 0) = 1
            receive(0, 51, 0) = 0
            receive(0, 9, 7) = 1
            bill 1: open 0, paid 10, disputed 90
            bounce(0) = 2
            bill 1: open 1, paid 9, disputed 90
            receive(0, 50, 6) = 2
            bill 1: open 1, paid 9, disputed 90
            bill(0, 1, 8, 0, 0) = 2
            receive(0, 2, 8) = 3
            bill 1: open 0, paid 10, disputed 90
            bounce(1) = 1
            bill 1: open 99, paid 1, disputed 0
            receive(0, 98, 7) = 4
            bill 1: open 0, paid 99, disputed 1
            bounce(3) = 2
            bill 1: open 1, paid 98, disputed 1
            bounce(4) = 1
            bill 1: open 100, paid 0, disputed 0
            """);
    }

    private static void aBounceLeavesDisputesOfOthers() {
        Run.shows("disputes raised by it (those of others stay)", """
            bill(0, 100, 7, 0, 0) = 0
            receive(0, 30, 0) = 0
            receive(0, 50, 7) = 1
            bounce(0) = 1
            bill 0: open 30, paid 50, disputed 20
            settle(0, true) = 20
            bill 0: open 30, paid 50, writtenOff 20
            """);
    }

    private static void aBounceLeavesDisputesThatOthersRaisedAnew() {
        Run.shows("disputes raised by it (not those that another receipt has raised since)", """
            bill(1, 100, 8, 0, 0) = 0
            receive(1, 60, 8) = 0
            settle(0, false) = 40
            receive(1, 10, 8) = 1
            bill 0: open 0, paid 70, disputed 30
            bounce(0) = 1
            bill 0: open 60, paid 10, disputed 30
            """);
    }

    private static void aBounceLeavesWhatWasWrittenOff() {
        Run.shows("disputes raised by it that were not settled end (one that was written off stays written off)", """
            bill(0, 100, 7, 1000, 9) = 0
            receive(0, 80, 7) = 0
            settle(0, true) = 20
            bounce(0) = 1
            bill 0: open 80, due 80, paid 0, disputed 0, writtenOff 20
            """);
    }

    private static void aBounceLeavesWhatWasWrittenOffOfAFormerDispute() {
        Run.shows("disputes raised by it that were not settled end (a former one that was written off stays so)", """
            bill(0, 100, 7, 0, 0) = 0
            receive(0, 30, 0) = 0
            receive(0, 65, 7) = 1
            settle(0, true) = 5
            bounce(0) = 1
            receive(0, 20, 7) = 2
            bill 0: open 0, paid 85, disputed 10, writtenOff 5
            bounce(2) = 1
            bill 0: open 30, paid 65, disputed 0, writtenOff 5
            bounce(1) = 1
            bill 0: open 95, paid 0, disputed 0, writtenOff 5
            """);
    }

    private static void aBounceLeavesWhatWasSettledToOpen() {
        Run.shows("disputes raised by it that were not settled end (one that was settled is open but once)", """
            bill(0, 100, 7, 0, 9) = 0
            receive(0, 80, 7) = 0
            settle(0, false) = 20
            bounce(0) = 1
            bill 0: open 100, due 100, paid 0, disputed 0, writtenOff 0
            """);
    }

    private static void aBounceOfAReceiptThatPaidNothing() {
        Run.shows("When a receipt bounces (that paid nothing)", """
            receive(0, 20, 0) = 0
            bill(0, 15, 1, 0, 0) = 0
            bounce(0) = 0
            bill 0: open 15, paid 0
            receipt 0: customerOf 0, unapplied 0, hasBounced true
            appliedTo(0, 0) = 0
            sums: received 20, applied 0, allUnapplied 0, paidBack 0, bounced 20
            """);
    }

    private static void aBounceOfAReceiptWithoutCustomer() {
        Run.shows("When a receipt bounces (that has no customer)", """
            receive(NONE, 20, 5) = 0
            bounce(0) = 0
            receipt 0: customerOf -1, unapplied 0, hasBounced true
            assign(0, 0) throws IllegalStateException
            sums: received 20, applied 0, allUnapplied 0, paidBack 0, bounced 20
            """);
    }

    private static void aBounceOfAReceiptThatPaidWithNothing() {
        Run.shows("When a receipt bounces (that paid a bill with 0)", """
            bill(0, 40, 7, 10000, 0) = 0
            receive(0, 20, 7) = 0
            appliedTo(0, 0) = 0
            bounce(0) = 1
            bill 0: open 40, due 0, paid 0, taken 0
            sums: received 20, applied 0, allUnapplied 0, paidBack 0, bounced 20
            """);
    }

    private static void nothingIsAppliedOrUnappliedOfIt() {
        Run.shows("nothing is applied or unapplied of it", """
            bill(0, 40, 7, 0, 0) = 0
            receive(0, 50, 7) = 0
            receive(1, 50, 7) = 1
            sums: received 100, applied 40, allUnapplied 60, bounced 0
            bounce(0) = 1
            receipt 0: customerOf 0, unapplied 0, hasBounced true
            appliedTo(0, 0) = 0
            sums: received 100, applied 0, allUnapplied 50, bounced 50
            apply(0) throws IllegalStateException
            payBack(0) throws IllegalStateException
            bounce(0) throws IllegalStateException
            bill 0: open 40
            """);
    }

    private static void aBounceLeavesOtherReceipts() {
        Run.shows("When a receipt bounces (the others stay)", """
            bill(0, 40, 7, 0, 0) = 0
            bill(0, 40, 8, 0, 0) = 1
            receive(0, 41, 7) = 0
            receive(0, 30, 0) = 1
            receive(0, 20, 0) = 2
            bounce(1) = 1
            bill 0: open 0, paid 40
            bill 1: open 30, paid 10
            receipt 0: unapplied 0, hasBounced false
            receipt 1: unapplied 0, hasBounced true
            receipt 2: unapplied 11, hasBounced false
            appliedTo(0, 0) = 40
            appliedTo(0, 1) = 1
            appliedTo(2, 1) = 9
            """);
    }

    private static void aBounceLetsOthersBeAppliedAgain() {
        Run.shows("what it paid of bills is not paid any more (and can be paid with another)", """
            bill(0, 40, 7, 1000, 0) = 0
            receive(0, 36, 0) = 0
            receive(0, 36, 0) = 1
            unapplied(1) = 36
            bounce(0) = 1
            unapplied(1) = 36
            apply(1) = 0
            bill 0: open 0, paid 36, taken 4
            appliedTo(1, 0) = 36
            """);
    }

    private static void aReceiptPaysABillAgain() {
        Run.shows("what it paid of bills is not paid any more (a bill that it paid twice)", """
            bill(0, 100, 7, 0, 0) = 0
            receive(0, 30, 0) = 0
            receive(0, 110, 7) = 1
            appliedTo(1, 0) = 70
            bounce(0) = 1
            apply(1) = 10
            appliedTo(1, 0) = 100
            bounce(1) = 1
            bill 0: open 100, paid 0
            """);
    }
}
