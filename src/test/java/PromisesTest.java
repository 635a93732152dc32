/**
 * The promises 1 to 29, each sentence that names a boundary case with a run of its own: the limits of each argument on
 * both sides, what is returned at the edges, and when which exception is thrown.
 */
final class PromisesTest {

    private static final String NO_INDEX = " throws IndexOutOfBoundsException\n";
    private static final String LOWEST_INT = "-2147483648";
    private static final String HIGHEST_INT = "2147483647";

    public static void main(String[] args) {
        aNewObjectHasNothing();
        aNewObjectHasNoBillAndNoReceipt();

        billTakesTheCustomersZeroToSeven();
        billTakesTheAmountsFromOneToTheHighest();
        billTakesTheReferencesFromOneToTheHighest();
        billTakesTheRatesFromZeroToTheHighest();
        billTakesTheDaysFromZeroToTheHighest();
        billRefusesTheFortyFirst();
        receiveTakesTheCustomersZeroToSevenAndNone();
        receiveTakesTheAmountsFromOneToTheHighest();
        receiveTakesTheReferencesFromZeroToTheHighest();
        receiveRefusesTheThirtyFirst();
        assignTakesTheReceiptsThatThereAre();
        assignTakesTheCustomersZeroToSeven();
        assignRefusesAReceiptThatHasACustomer();
        assignRefusesAReceiptThatHasBounced();
        assignDoesTheStepsTwoAndThree();
        assignReturnsWhatIsNotApplied();
        applyTakesTheReceiptsThatThereAre();
        applyRefusesAReceiptWithoutCustomer();
        applyRefusesAReceiptThatHasBounced();
        applyDoesTheStepsTwoAndThreeAgain();
        applyReturnsWhatIsNotApplied();
        payBackTakesTheReceiptsThatThereAre();
        payBackPaysAllOrAPart();
        payBackRefusesWhatHasBouncedOrHasNothingLeft();
        bounceTakesTheReceiptsThatThereAre();
        bounceReturnsHowManyBillsItHadPaid();
        bounceCountsABillOfNothing();
        bounceCountsABillOnce();
        bounceCountsBillsOfWhichItTookTheDispute();
        bounceRefusesWhatHasBounced();
        bounceRefusesWhatWasPaidBack();
        settleTakesTheBillsThatThereAre();
        settleReturnsWhatWasDisputed();
        settleRefusesABillWithoutDispute();
        advanceTakesOneToAHundredDays();
        advanceReturnsTheDay();

        billsCountsFromZeroToForty();
        eachQuestionOfABillTakesTheBillsThatThereAre();
        eachQuestionOfABillTakesTheLastOfForty();
        eachQuestionOfABillTellsOfItFromNothingToAll();
        openOfTakesTheCustomersZeroToSeven();
        openOfAddsUpFromNothingToAll();
        setForTakesTheCustomersZeroToSeven();
        setForTakesTheSumsFromOne();
        setForTakesThePlacesZeroToTwo();
        setForTellsOfNow();
        setForIsWhatStepTwoTakes();

        receiptsCountsFromZeroToThirty();
        eachQuestionOfAReceiptTakesTheReceiptsThatThereAre();
        eachQuestionOfAReceiptTakesTheLastOfThirty();
        customerOfTellsOfNone();
        appliedToTakesTheReceiptsAndBillsThatThereAre();
        appliedToTellsFromNothingToAll();
        appliedToTellsOfTheLastReceiptAndBill();
        unappliedTellsFromNothingToAll();
        hasBouncedTellsWhetherItHas();
        sumsAreNothingAtFirst();
        sumsOfOneReceipt();
        sumsOfAReceiptForSeveralBills();
        sumsOfThirtyLargestReceipts();
        sumsOfThirtyPaidBack();
        Check.finish();
    }

    // ---- promise 1

    private static void aNewObjectHasNothing() {
        Run.shows("Promise 1: No bills and receipts, on day 0.", """
            sums: bills 0, receipts 0, day 0
            sums: received 0, applied 0, allUnapplied 0, paidBack 0, bounced 0
            8 times: openOf(#) = 0
            8 times: setFor(#, 1, 0) = -1
            """);
    }

    private static void aNewObjectHasNoBillAndNoReceipt() {
        Run.shows("Promise 1: No bills and receipts (each call that wants one is refused)", """
            assign(0, 0) throws IndexOutOfBoundsException
            apply(0) throws IndexOutOfBoundsException
            payBack(0) throws IndexOutOfBoundsException
            bounce(0) throws IndexOutOfBoundsException
            settle(0, true) throws IndexOutOfBoundsException
            open(0) throws IndexOutOfBoundsException
            due(0) throws IndexOutOfBoundsException
            paid(0) throws IndexOutOfBoundsException
            taken(0) throws IndexOutOfBoundsException
            disputed(0) throws IndexOutOfBoundsException
            writtenOff(0) throws IndexOutOfBoundsException
            customerOf(0) throws IndexOutOfBoundsException
            appliedTo(0, 0) throws IndexOutOfBoundsException
            unapplied(0) throws IndexOutOfBoundsException
            hasBounced(0) throws IndexOutOfBoundsException
            """);
    }

    // ---- promise 2

    private static void billTakesTheCustomersZeroToSeven() {
        Run.shows("Promise 2: customer: 0 to 7", """
            bill(0, 10, 1, 0, 0) = 0
            bill(7, 20, 1, 0, 0) = 1
            bill(-1, 10, 1, 0, 0) throws IndexOutOfBoundsException
            bill(8, 10, 1, 0, 0) throws IndexOutOfBoundsException
            bill(-2147483648, 10, 1, 0, 0) throws IndexOutOfBoundsException
            bill(2147483647, 10, 1, 0, 0) throws IndexOutOfBoundsException
            customer 0: openOf 10
            customer 7: openOf 20
            """);
    }

    private static void billTakesTheAmountsFromOneToTheHighest() {
        Run.shows("Promise 2: amount: 1 to 1000000", """
            bill(0, 1, 1, 0, 0) = 0
            bill(0, 1000000, 1, 0, 0) = 1
            bill(0, 0, 1, 0, 0) throws IllegalArgumentException
            bill(0, 1000001, 1, 0, 0) throws IllegalArgumentException
            bill(0, -1, 1, 0, 0) throws IllegalArgumentException
            bill(0, -2147483648, 1, 0, 0) throws IllegalArgumentException
            bill(0, 2147483647, 1, 0, 0) throws IllegalArgumentException
            bill 0: open 1
            bill 1: open 1000000
            """);
    }

    private static void billTakesTheReferencesFromOneToTheHighest() {
        Run.shows("Promise 2: reference: 1 to 9999", """
            bill(0, 10, 1, 0, 0) = 0
            bill(1, 10, 9999, 0, 0) = 1
            bill(0, 10, 0, 0, 0) throws IllegalArgumentException
            bill(0, 10, 10000, 0, 0) throws IllegalArgumentException
            bill(0, 10, -1, 0, 0) throws IllegalArgumentException
            bill(0, 10, -2147483648, 0, 0) throws IllegalArgumentException
            bill(0, 10, 2147483647, 0, 0) throws IllegalArgumentException
            receive(NONE, 10, 9999) = 0
            receive(NONE, 10, 1) = 1
            receipt 0: customerOf 1
            receipt 1: customerOf 0
            """);
    }

    private static void billTakesTheRatesFromZeroToTheHighest() {
        Run.shows("Promise 2: rate: 0 to 10000: the discount rate", """
            bill(0, 10, 1, 0, 0) = 0
            bill(0, 10, 1, 10000, 0) = 1
            bill(0, 10, 1, -1, 0) throws IllegalArgumentException
            bill(0, 10, 1, 10001, 0) throws IllegalArgumentException
            bill(0, 10, 1, -2147483648, 0) throws IllegalArgumentException
            bill(0, 10, 1, 2147483647, 0) throws IllegalArgumentException
            bill 0: due 10
            bill 1: due 0
            """);
    }

    private static void billTakesTheDaysFromZeroToTheHighest() {
        Run.shows("Promise 2: days: 0 to 90: the discount days", """
            bill(0, 10, 1, 1000, 0) = 0
            bill(0, 10, 1, 1000, 90) = 1
            bill(0, 10, 1, 1000, -1) throws IllegalArgumentException
            bill(0, 10, 1, 1000, 91) throws IllegalArgumentException
            bill(0, 10, 1, 1000, -2147483648) throws IllegalArgumentException
            bill(0, 10, 1, 1000, 2147483647) throws IllegalArgumentException
            bill 0: due 9
            bill 1: due 9
            advance(1) = 1
            bill 0: due 10
            bill 1: due 9
            advance(89) = 90
            bill 1: due 9
            advance(1) = 91
            bill 1: due 10
            """);
    }

    private static void billRefusesTheFortyFirst() {
        Run.shows("Promise 2: Throws IllegalStateException if there are 40 bills", """
            39 times: bill(0, 10, 1, 0, 0) = #
            bill(0, 10, 1, 0, 0) = 39
            bill(0, 10, 1, 0, 0) throws IllegalStateException
            bill(7, 1000000, 9999, 10000, 90) throws IllegalStateException
            customer 0: openOf 400
            """);
    }

    // ---- promise 3

    private static void receiveTakesTheCustomersZeroToSevenAndNone() {
        Run.shows("Promise 3: customer: 0 to 7, or NONE if it is not known", """
            receive(0, 10, 0) = 0
            receive(7, 10, 0) = 1
            receive(NONE, 10, 0) = 2
            receive(-2, 10, 0) throws IndexOutOfBoundsException
            receive(8, 10, 0) throws IndexOutOfBoundsException
            receive(-2147483648, 10, 0) throws IndexOutOfBoundsException
            receive(2147483647, 10, 0) throws IndexOutOfBoundsException
            receipt 0: customerOf 0
            receipt 1: customerOf 7
            receipt 2: customerOf -1
            """);
    }

    private static void receiveTakesTheAmountsFromOneToTheHighest() {
        Run.shows("Promise 3: amount: 1 to 1000000", """
            receive(0, 1, 0) = 0
            receive(0, 1000000, 0) = 1
            receive(0, 0, 0) throws IllegalArgumentException
            receive(0, 1000001, 0) throws IllegalArgumentException
            receive(NONE, -1, 0) throws IllegalArgumentException
            receive(0, -2147483648, 0) throws IllegalArgumentException
            receive(0, 2147483647, 0) throws IllegalArgumentException
            receipt 0: unapplied 1
            receipt 1: unapplied 1000000
            """);
    }

    private static void receiveTakesTheReferencesFromZeroToTheHighest() {
        Run.shows("Promise 3: reference: 1 to 9999, or 0 for none", """
            bill(2, 10, 1, 0, 0) = 0
            bill(3, 10, 9999, 0, 0) = 1
            receive(NONE, 10, 0) = 0
            receive(NONE, 10, -1) throws IllegalArgumentException
            receive(NONE, 10, 10000) throws IllegalArgumentException
            receive(NONE, 10, -2147483648) throws IllegalArgumentException
            receive(NONE, 10, 2147483647) throws IllegalArgumentException
            receive(NONE, 10, 1) = 1
            receive(NONE, 10, 9999) = 2
            receipt 0: customerOf -1
            receipt 1: customerOf 2
            receipt 2: customerOf 3
            """);
    }

    private static void receiveRefusesTheThirtyFirst() {
        Run.shows("Promise 3: Throws IllegalStateException if there are 30 receipts", """
            bill(0, 1000, 1, 0, 0) = 0
            29 times: receive(0, 10, 0) = #
            receive(NONE, 10, 1) = 29
            receive(0, 10, 0) throws IllegalStateException
            receive(NONE, 10, 0) throws IllegalStateException
            receive(7, 1000000, 9999) throws IllegalStateException
            bill 0: open 0, paid 300, disputed 700
            """);
    }

    // ---- promise 4

    private static void assignTakesTheReceiptsThatThereAre() {
        Run.shows("Promise 4: receipt: a receipt", """
            receive(NONE, 10, 0) = 0
            receive(NONE, 20, 0) = 1
            assign(-1, 0) throws IndexOutOfBoundsException
            assign(2, 0) throws IndexOutOfBoundsException
            assign(30, 0) throws IndexOutOfBoundsException
            assign(-2147483648, 0) throws IndexOutOfBoundsException
            assign(2147483647, 0) throws IndexOutOfBoundsException
            assign(0, 5) = 10
            assign(1, 6) = 20
            receipt 0: customerOf 5
            receipt 1: customerOf 6
            """);
    }

    private static void assignTakesTheCustomersZeroToSeven() {
        Run.shows("Promise 4: customer: 0 to 7", """
            receive(NONE, 10, 0) = 0
            receive(NONE, 20, 0) = 1
            assign(0, NONE) throws IndexOutOfBoundsException
            assign(0, 8) throws IndexOutOfBoundsException
            assign(0, -2147483648) throws IndexOutOfBoundsException
            assign(0, 2147483647) throws IndexOutOfBoundsException
            customerOf(0) = -1
            assign(0, 0) = 10
            assign(1, 7) = 20
            receipt 0: customerOf 0
            receipt 1: customerOf 7
            """);
    }

    private static void assignRefusesAReceiptThatHasACustomer() {
        Run.shows("Promise 4: Throws IllegalStateException if it has a customer", """
            bill(2, 10, 7, 0, 0) = 0
            receive(0, 10, 0) = 0
            receive(NONE, 20, 7) = 1
            receive(NONE, 20, 0) = 2
            assign(2, 0) = 20
            assign(0, 0) throws IllegalStateException
            assign(0, 2) throws IllegalStateException
            assign(1, 0) throws IllegalStateException
            assign(2, 0) throws IllegalStateException
            assign(2, 7) throws IllegalStateException
            receipt 0: customerOf 0
            receipt 1: customerOf 2
            receipt 2: customerOf 0
            """);
    }

    private static void assignRefusesAReceiptThatHasBounced() {
        Run.shows("Promise 4: Throws IllegalStateException if it has bounced", """
            receive(NONE, 10, 0) = 0
            receive(0, 10, 0) = 1
            bounce(0) = 0
            bounce(1) = 0
            assign(0, 0) throws IllegalStateException
            assign(1, 0) throws IllegalStateException
            receipt 0: customerOf -1
            receipt 1: customerOf 0
            """);
    }

    private static void assignDoesTheStepsTwoAndThree() {
        Run.shows("Promise 4: the steps 2 and 3 are done then (not step 1)", """
            receive(NONE, 30, 7) = 0
            receive(NONE, 105, 7) = 1
            bill(0, 100, 1, 0, 0) = 0
            bill(0, 40, 7, 0, 0) = 1
            bill(0, 30, 2, 0, 0) = 2
            bill(1, 30, 3, 0, 0) = 3
            assign(0, 0) = 0
            bill 0: open 100
            bill 1: open 40
            bill 2: open 0, paid 30
            bill 3: open 30
            assign(1, 0) = 0
            bill 0: open 0, paid 100
            bill 1: open 35, paid 5, disputed 0
            """);
    }

    private static void assignReturnsWhatIsNotApplied() {
        Run.shows("Promise 4: Returns what is not applied of it then. (nothing, a part, all; nothing when paid back)", """
            bill(0, 30, 1, 0, 0) = 0
            4 times: receive(NONE, 20, 0) = #
            assign(0, 0) = 0
            assign(1, 0) = 10
            assign(2, 0) = 20
            bill(3, 1, 1, 10000, 0) = 1
            payBack(3) = 20
            assign(3, 3) = 0
            receipt 1: unapplied 10
            receipt 2: unapplied 20
            receipt 3: unapplied 0, customerOf 3
            bill 1: open 1, taken 0
            """);
    }

    // ---- promise 5

    private static void applyTakesTheReceiptsThatThereAre() {
        Run.shows("Promise 5: receipt: a receipt", """
            receive(0, 10, 0) = 0
            receive(1, 20, 0) = 1
            apply(-1) throws IndexOutOfBoundsException
            apply(2) throws IndexOutOfBoundsException
            apply(30) throws IndexOutOfBoundsException
            apply(-2147483648) throws IndexOutOfBoundsException
            apply(2147483647) throws IndexOutOfBoundsException
            apply(0) = 10
            apply(1) = 20
            """);
    }

    private static void applyRefusesAReceiptWithoutCustomer() {
        Run.shows("Promise 5: Throws IllegalStateException if it has no customer", """
            receive(NONE, 10, 7) = 0
            bill(0, 10, 7, 0, 0) = 0
            apply(0) throws IllegalStateException
            payBack(0) = 10
            apply(0) throws IllegalStateException
            customerOf(0) = -1
            assign(0, 0) = 0
            apply(0) = 0
            open(0) = 10
            """);
    }

    private static void applyRefusesAReceiptThatHasBounced() {
        Run.shows("Promise 5: Throws IllegalStateException if it has bounced", """
            receive(0, 10, 0) = 0
            receive(NONE, 10, 0) = 1
            bill(0, 10, 7, 0, 0) = 0
            bounce(0) = 0
            bounce(1) = 0
            apply(0) throws IllegalStateException
            apply(1) throws IllegalStateException
            open(0) = 10
            """);
    }

    private static void applyDoesTheStepsTwoAndThreeAgain() {
        Run.shows("Promise 5: Does the steps 2 and 3 again, with what is not applied of a receipt. (not step 1)", """
            receive(0, 100, 5) = 0
            bill(0, 90, 5, 0, 0) = 0
            bill(0, 30, 6, 0, 0) = 1
            bill(0, 70, 7, 0, 0) = 2
            bill(1, 100, 5, 0, 0) = 3
            apply(0) = 0
            bill 0: open 90, disputed 0
            bill 1: open 0, paid 30
            bill 2: open 0, paid 70
            bill 3: open 100
            receive(1, 120, 0) = 1
            bill(1, 50, 5, 0, 0) = 4
            apply(1) = 0
            bill 4: open 30, paid 20, disputed 0
            """);
    }

    private static void applyReturnsWhatIsNotApplied() {
        Run.shows("Promise 5: Returns what is not applied of it then. (all, a part, nothing; nothing when paid back)", """
            receive(0, 100, 0) = 0
            apply(0) = 100
            bill(0, 99, 1, 0, 0) = 0
            apply(0) = 1
            bill(0, 5, 1, 0, 0) = 1
            apply(0) = 0
            apply(0) = 0
            bill 1: open 4, paid 1
            receive(2, 10, 0) = 1
            payBack(1) = 10
            bill(2, 10, 1, 0, 0) = 2
            bill(2, 10, 1, 10000, 0) = 3
            apply(1) = 0
            bill 2: open 10
            bill 3: open 10, taken 0
            """);
    }

    // ---- promise 6

    private static void payBackTakesTheReceiptsThatThereAre() {
        Run.shows("Promise 6: receipt: a receipt", """
            receive(0, 10, 0) = 0
            receive(NONE, 20, 0) = 1
            payBack(-1) throws IndexOutOfBoundsException
            payBack(2) throws IndexOutOfBoundsException
            payBack(30) throws IndexOutOfBoundsException
            payBack(-2147483648) throws IndexOutOfBoundsException
            payBack(2147483647) throws IndexOutOfBoundsException
            payBack(0) = 10
            payBack(1) = 20
            paidBack() = 30
            """);
    }

    private static void payBackPaysAllOrAPart() {
        Run.shows("Promise 6: Returns what is paid back by this. (all, a part, a cent, the largest amount)", """
            bill(0, 10, 1, 0, 0) = 0
            receive(0, 25, 0) = 0
            receive(0, 8, 0) = 1
            receive(NONE, 1, 0) = 2
            receive(NONE, 1000000, 0) = 3
            payBack(0) = 15
            payBack(1) = 8
            payBack(2) = 1
            payBack(3) = 1000000
            receipt 0: unapplied 0, hasBounced false, customerOf 0
            receipt 3: unapplied 0, hasBounced false, customerOf -1
            appliedTo(0, 0) = 10
            bill 0: open 0, paid 10
            """);
    }

    private static void payBackRefusesWhatHasBouncedOrHasNothingLeft() {
        Run.shows("Promise 6: Throws IllegalStateException if it has bounced, or nothing of it is unapplied", """
            bill(0, 10, 1, 0, 0) = 0
            receive(0, 10, 0) = 0
            receive(0, 4, 0) = 1
            receive(0, 4, 0) = 2
            payBack(1) = 4
            bounce(2) = 0
            payBack(0) throws IllegalStateException
            payBack(1) throws IllegalStateException
            payBack(2) throws IllegalStateException
            sums: paidBack 4, bounced 4
            """);
    }

    // ---- promise 7

    private static void bounceTakesTheReceiptsThatThereAre() {
        Run.shows("Promise 7: receipt: a receipt", """
            receive(0, 10, 0) = 0
            receive(NONE, 20, 0) = 1
            bounce(-1) throws IndexOutOfBoundsException
            bounce(2) throws IndexOutOfBoundsException
            bounce(30) throws IndexOutOfBoundsException
            bounce(-2147483648) throws IndexOutOfBoundsException
            bounce(2147483647) throws IndexOutOfBoundsException
            bounced() = 0
            bounce(0) = 0
            bounce(1) = 0
            bounced() = 30
            """);
    }

    private static void bounceReturnsHowManyBillsItHadPaid() {
        Run.shows("Promise 7: Returns how many bills it had paid, in full or in part (none, one, some, all 40)", """
            40 times: bill(0, 1, 1, 0, 0) = #
            receive(1, 5, 0) = 0
            receive(0, 1, 0) = 1
            receive(0, 3, 0) = 2
            bounce(0) = 0
            bounce(1) = 1
            bounce(2) = 3
            receive(0, 50, 0) = 3
            bounce(3) = 40
            bill(1, 7, 1, 0, 0) throws IllegalStateException
            receive(0, 40, 1) = 4
            bounce(4) = 40
            """);
    }

    private static void bounceCountsABillOfNothing() {
        Run.shows("Promise 7: in full (also with 0)", """
            bill(0, 10, 1, 10000, 0) = 0
            bill(0, 10, 1, 0, 0) = 1
            bill(0, 10, 2, 10000, 0) = 2
            receive(0, 5, 1) = 0
            bounce(0) = 2
            receive(0, 25, 1) = 1
            bounce(1) = 3
            receive(0, 10, 1) = 2
            bounce(2) = 2
            """);
    }

    private static void bounceCountsABillOnce() {
        Run.shows("Promise 7: each counted once", """
            bill(0, 100, 7, 0, 0) = 0
            receive(0, 30, 0) = 0
            receive(0, 10, 0) = 1
            receive(0, 120, 7) = 2
            appliedTo(2, 0) = 60
            bounce(0) = 1
            apply(2) = 30
            bounce(1) = 1
            apply(2) = 20
            appliedTo(2, 0) = 100
            bounce(2) = 1
            """);
    }

    private static void bounceCountsBillsOfWhichItTookTheDispute() {
        Run.shows("Promise 7: in full or in part (a part with a dispute, also when this was settled)", """
            bill(0, 10, 7, 0, 0) = 0
            bill(0, 10, 7, 0, 0) = 1
            receive(0, 19, 7) = 0
            disputed(1) = 1
            bounce(0) = 2
            receive(0, 19, 7) = 1
            settle(1, true) = 1
            bounce(1) = 2
            """);
    }

    private static void bounceRefusesWhatHasBounced() {
        Run.shows("Promise 7: Throws IllegalStateException if it has bounced", """
            bill(0, 10, 7, 0, 0) = 0
            receive(0, 5, 0) = 0
            bounce(0) = 1
            receive(0, 5, 0) = 1
            bounce(0) throws IllegalStateException
            bill 0: open 5, paid 5
            bounced() = 5
            """);
    }

    private static void bounceRefusesWhatWasPaidBack() {
        Run.shows("Promise 7: Throws IllegalStateException if something of it was paid back (a cent, all)", """
            bill(0, 10, 7, 0, 0) = 0
            receive(0, 11, 0) = 0
            receive(0, 5, 0) = 1
            payBack(0) = 1
            payBack(1) = 5
            bounce(0) throws IllegalStateException
            bounce(1) throws IllegalStateException
            bill 0: open 0, paid 10
            bounced() = 0
            """);
    }

    // ---- promises 8 and 9

    private static void settleTakesTheBillsThatThereAre() {
        Run.shows("Promise 8: bill: a bill", """
            bill(0, 10, 7, 0, 0) = 0
            bill(0, 10, 8, 0, 0) = 1
            receive(0, 9, 7) = 0
            receive(0, 8, 8) = 1
            settle(-1, true) throws IndexOutOfBoundsException
            settle(2, true) throws IndexOutOfBoundsException
            settle(2, false) throws IndexOutOfBoundsException
            settle(40, true) throws IndexOutOfBoundsException
            settle(-2147483648, true) throws IndexOutOfBoundsException
            settle(2147483647, false) throws IndexOutOfBoundsException
            settle(0, true) = 1
            settle(1, true) = 2
            """);
    }

    private static void settleReturnsWhatWasDisputed() {
        Run.shows("Promise 8: isAccepted: whether what is disputed is written off; otherwise it is open again."
            + " Returns what was disputed.", """
            bill(0, 10, 7, 0, 0) = 0
            bill(0, 1000000, 8, 0, 0) = 1
            receive(0, 9, 7) = 0
            receive(0, 1, 8) = 1
            settle(0, true) = 1
            settle(1, false) = 999999
            bill 0: open 0, paid 9, disputed 0, writtenOff 1
            bill 1: open 999999, paid 1, disputed 0, writtenOff 0
            """);
    }

    private static void settleRefusesABillWithoutDispute() {
        Run.shows("Promise 8: Throws IllegalStateException if nothing of it is disputed", """
            bill(0, 10, 7, 0, 0) = 0
            bill(0, 10, 8, 0, 0) = 1
            receive(0, 9, 0) = 0
            settle(0, true) throws IllegalStateException
            settle(0, false) throws IllegalStateException
            receive(0, 9, 8) = 1
            settle(1, false) = 1
            settle(1, false) throws IllegalStateException
            settle(1, true) throws IllegalStateException
            bill 0: open 1, writtenOff 0
            bill 1: open 1, writtenOff 0
            """);
    }

    private static void advanceTakesOneToAHundredDays() {
        Run.shows("Promise 9: days: 1 to 100", """
            advance(0) throws IllegalArgumentException
            advance(-1) throws IllegalArgumentException
            advance(101) throws IllegalArgumentException
            advance(-2147483648) throws IllegalArgumentException
            advance(2147483647) throws IllegalArgumentException
            day() = 0
            advance(1) = 1
            advance(100) = 101
            day() = 101
            """);
    }

    private static void advanceReturnsTheDay() {
        Run.shows("Promise 9: Returns the day then.", """
            advance(3) = 3
            advance(1) = 4
            advance(100) = 104
            506 times: advance(100)
            advance(100) = 50804
            """);
    }

    // ---- promises 10 to 18

    private static void billsCountsFromZeroToForty() {
        Run.shows("Promise 10: Returns the number of bills.", """
            bills() = 0
            bill(0, 10, 1, 0, 0) = 0
            bills() = 1
            bill(8, 10, 1, 0, 0) throws IndexOutOfBoundsException
            bills() = 1
            receive(0, 10, 1) = 0
            bills() = 1
            39 times: bill(0, 10, 1, 0, 0)
            bills() = 40
            """);
    }

    private static void eachQuestionOfABillTakesTheBillsThatThereAre() {
        String[] questions = {"open", "due", "paid", "taken", "disputed", "writtenOff"};
        for (int number = 0; number < questions.length; number++) {
            String call = questions[number];
            Run.shows("Promise " + (11 + number) + ": bill: a bill", "bill(0, 10, 1, 0, 0) = 0\n"
                + "bill(0, 10, 1, 0, 0) = 1\n"
                + call + "(0)\n"
                + call + "(1)\n"
                + call + "(-1)" + NO_INDEX
                + call + "(2)" + NO_INDEX
                + call + "(39)" + NO_INDEX
                + call + "(40)" + NO_INDEX
                + call + "(" + LOWEST_INT + ")" + NO_INDEX
                + call + "(" + HIGHEST_INT + ")" + NO_INDEX);
        }
    }

    private static void eachQuestionOfABillTakesTheLastOfForty() {
        Run.shows("Promises 11 to 16: bill: a bill (the last of 40)", """
            39 times: bill(0, 10, 1, 0, 0) = #
            bill(0, 20, 1, 5000, 0) = 39
            bill 39: open 20, due 10, paid 0, taken 0, disputed 0, writtenOff 0
            open(40) throws IndexOutOfBoundsException
            due(40) throws IndexOutOfBoundsException
            paid(40) throws IndexOutOfBoundsException
            taken(40) throws IndexOutOfBoundsException
            disputed(40) throws IndexOutOfBoundsException
            writtenOff(40) throws IndexOutOfBoundsException
            """);
    }

    private static void eachQuestionOfABillTellsOfItFromNothingToAll() {
        Run.shows("Promises 11 to 16: Returns what is open, due now, paid, taken, disputed, written off", """
            bill(0, 1000000, 1, 10000, 0) = 0
            bill(1, 1000000, 2, 0, 0) = 1
            bill(2, 1000000, 3, 5000, 0) = 2
            bill 0: open 1000000, due 0, paid 0, taken 0, disputed 0, writtenOff 0
            bill 1: open 1000000, due 1000000, paid 0, taken 0, disputed 0, writtenOff 0
            bill 2: open 1000000, due 500000, paid 0, taken 0, disputed 0, writtenOff 0
            receive(0, 1, 1) = 0
            receive(1, 1000000, 2) = 1
            receive(2, 1, 3) = 2
            bill 0: open 0, due 0, paid 0, taken 1000000, disputed 0, writtenOff 0
            bill 1: open 0, due 0, paid 1000000, taken 0, disputed 0, writtenOff 0
            bill 2: open 0, due 0, paid 1, taken 0, disputed 999999, writtenOff 0
            settle(2, true) = 999999
            bill 2: open 0, due 0, paid 1, taken 0, disputed 0, writtenOff 999999
            """);
    }

    private static void openOfTakesTheCustomersZeroToSeven() {
        Run.shows("Promise 17: customer: 0 to 7", """
            bill(0, 10, 1, 0, 0) = 0
            bill(7, 20, 1, 0, 0) = 1
            openOf(0) = 10
            openOf(7) = 20
            openOf(-1) throws IndexOutOfBoundsException
            openOf(8) throws IndexOutOfBoundsException
            openOf(-2147483648) throws IndexOutOfBoundsException
            openOf(2147483647) throws IndexOutOfBoundsException
            """);
    }

    private static void openOfAddsUpFromNothingToAll() {
        Run.shows("Promise 17: Returns what is open of all bills of a customer. (none, in part, 40 of the largest)", """
            openOf(3) = 0
            bill(4, 1000, 1, 0, 0) = 0
            openOf(3) = 0
            bill(3, 100, 1, 10000, 0) = 1
            bill(3, 50, 2, 0, 0) = 2
            openOf(3) = 150
            receive(3, 30, 2) = 0
            openOf(3) = 100
            settle(2, false) = 20
            openOf(3) = 120
            receive(3, 1, 1) = 1
            openOf(3) = 19
            37 times: bill(3, 1000000, 1, 0, 0)
            openOf(3) = 37000019
            openOf(4) = 1000
            """);
        Run.shows("Promise 17: Returns what is open of all bills of a customer. (40 of the largest amount)", """
            40 times: bill(7, 1000000, 1, 10000, 0)
            openOf(7) = 40000000
            openOf(0) = 0
            """);
    }

    private static void setForTakesTheCustomersZeroToSeven() {
        Run.shows("Promise 18: customer: 0 to 7", """
            bill(0, 10, 1, 0, 0) = 0
            bill(7, 20, 1, 0, 0) = 1
            setFor(0, 10, 0) = 0
            setFor(7, 20, 0) = 1
            setFor(-1, 10, 0) throws IndexOutOfBoundsException
            setFor(8, 10, 0) throws IndexOutOfBoundsException
            setFor(-2147483648, 10, 0) throws IndexOutOfBoundsException
            setFor(2147483647, 10, 0) throws IndexOutOfBoundsException
            """);
    }

    private static void setForTakesTheSumsFromOne() {
        Run.shows("Promise 18: sum: 1 or more", """
            bill(0, 10, 1, 10000, 0) = 0
            bill(0, 1, 1, 0, 0) = 1
            bill(0, 1000000, 1, 0, 0) = 2
            bill(0, 1000000, 1, 0, 0) = 3
            bill(0, 1000000, 1, 0, 0) = 4
            setFor(0, 0, 0) throws IllegalArgumentException
            setFor(0, -1, 0) throws IllegalArgumentException
            setFor(0, -2147483648, 2) throws IllegalArgumentException
            setFor(0, 1, 0) = 1
            setFor(0, 1000000, 0) = 2
            setFor(0, 2000000, 1) = 3
            setFor(0, 3000000, 2) = 4
            setFor(0, 3000001, 0) = -1
            setFor(0, 2147483647, 0) = -1
            setFor(0, 2147483647, 2) = -1
            """);
    }

    private static void setForTakesThePlacesZeroToTwo() {
        Run.shows("Promise 18: place: 0 to 2: 0 for the lowest bill. NONE if there is no such set, or it has fewer bills",
            """
            bill(0, 1, 1, 0, 0) = 0
            bill(0, 2, 1, 0, 0) = 1
            bill(0, 4, 1, 0, 0) = 2
            setFor(0, 7, -1) throws IndexOutOfBoundsException
            setFor(0, 7, 0) = 0
            setFor(0, 7, 1) = 1
            setFor(0, 7, 2) = 2
            setFor(0, 7, 3) throws IndexOutOfBoundsException
            setFor(0, 7, -2147483648) throws IndexOutOfBoundsException
            setFor(0, 7, 2147483647) throws IndexOutOfBoundsException
            setFor(0, 6, 0) = 1
            setFor(0, 6, 1) = 2
            setFor(0, 6, 2) = -1
            setFor(0, 4, 0) = 2
            setFor(0, 4, 1) = -1
            setFor(0, 4, 2) = -1
            setFor(0, 8, 0) = -1
            setFor(0, 8, 1) = -1
            setFor(0, 8, 2) = -1
            """);
    }

    private static void setForTellsOfNow() {
        Run.shows("Promise 18: the set that step 2 would take now (behind a payment, a bounce, a settlement, a day)", """
            bill(0, 10, 1, 1000, 0) = 0
            bill(0, 10, 2, 0, 0) = 1
            setFor(0, 9, 0) = 0
            setFor(0, 10, 0) = 1
            receive(0, 10, 2) = 0
            setFor(0, 10, 0) = -1
            bounce(0) = 1
            setFor(0, 10, 0) = 1
            advance(1) = 1
            setFor(0, 9, 0) = -1
            setFor(0, 10, 0) = 0
            receive(0, 4, 1) = 1
            setFor(0, 6, 0) = -1
            settle(0, false) = 6
            setFor(0, 6, 0) = 0
            """);
    }

    private static void setForIsWhatStepTwoTakes() {
        Run.shows("Promise 18: a bill of the set that step 2 would take", """
            bill(0, 5, 1, 0, 0) = 0
            bill(0, 8, 1, 0, 0) = 1
            bill(0, 3, 1, 0, 0) = 2
            bill(0, 4, 1, 0, 0) = 3
            setFor(0, 12, 0) = 1
            setFor(0, 12, 1) = 3
            setFor(0, 12, 2) = -1
            receive(0, 12, 0) = 0
            bill 0: open 5
            bill 1: open 0
            bill 2: open 3
            bill 3: open 0
            """);
    }

    // ---- promises 19 to 23

    private static void receiptsCountsFromZeroToThirty() {
        Run.shows("Promise 19: Returns the number of receipts.", """
            receipts() = 0
            receive(0, 10, 1) = 0
            receipts() = 1
            receive(8, 10, 1) throws IndexOutOfBoundsException
            bounce(0) = 0
            receipts() = 1
            29 times: receive(0, 10, 1)
            receipts() = 30
            """);
    }

    private static void eachQuestionOfAReceiptTakesTheReceiptsThatThereAre() {
        String[] questions = {"customerOf", "unapplied", "hasBounced"};
        int[] promises = {20, 22, 23};
        for (int number = 0; number < questions.length; number++) {
            String call = questions[number];
            Run.shows("Promise " + promises[number] + ": receipt: a receipt", "receive(0, 10, 1) = 0\n"
                + "receive(NONE, 10, 1) = 1\n"
                + call + "(0)\n"
                + call + "(1)\n"
                + call + "(-1)" + NO_INDEX
                + call + "(2)" + NO_INDEX
                + call + "(29)" + NO_INDEX
                + call + "(30)" + NO_INDEX
                + call + "(" + LOWEST_INT + ")" + NO_INDEX
                + call + "(" + HIGHEST_INT + ")" + NO_INDEX);
        }
    }

    private static void eachQuestionOfAReceiptTakesTheLastOfThirty() {
        Run.shows("Promises 20, 22 and 23: receipt: a receipt (the last of 30)", """
            29 times: receive(0, 10, 0) = #
            receive(7, 11, 0) = 29
            receipt 29: customerOf 7, unapplied 11, hasBounced false
            customerOf(30) throws IndexOutOfBoundsException
            unapplied(30) throws IndexOutOfBoundsException
            hasBounced(30) throws IndexOutOfBoundsException
            """);
    }

    private static void customerOfTellsOfNone() {
        Run.shows("Promise 20: Returns the customer of a receipt; NONE if it has none.", """
            receive(NONE, 10, 0) = 0
            receive(0, 10, 0) = 1
            receive(7, 10, 0) = 2
            receipt 0: customerOf -1
            receipt 1: customerOf 0
            receipt 2: customerOf 7
            assign(0, 0) = 10
            customerOf(0) = 0
            bounce(0) = 0
            customerOf(0) = 0
            bill(5, 10, 7, 0, 0) = 0
            receive(NONE, 10, 7) = 3
            customerOf(3) = 5
            bounce(3) = 1
            customerOf(3) = 5
            """);
    }

    private static void appliedToTakesTheReceiptsAndBillsThatThereAre() {
        Run.shows("Promise 21: receipt: a receipt; bill: a bill", """
            bill(0, 10, 1, 0, 0) = 0
            bill(0, 20, 1, 0, 0) = 1
            receive(0, 30, 0) = 0
            appliedTo(0, 0) = 10
            appliedTo(0, 1) = 20
            appliedTo(-1, 0) throws IndexOutOfBoundsException
            appliedTo(1, 0) throws IndexOutOfBoundsException
            appliedTo(30, 0) throws IndexOutOfBoundsException
            appliedTo(0, -1) throws IndexOutOfBoundsException
            appliedTo(0, 2) throws IndexOutOfBoundsException
            appliedTo(0, 40) throws IndexOutOfBoundsException
            appliedTo(1, 2) throws IndexOutOfBoundsException
            appliedTo(-1, -1) throws IndexOutOfBoundsException
            appliedTo(1, -1) throws IndexOutOfBoundsException
            appliedTo(-2147483648, 0) throws IndexOutOfBoundsException
            appliedTo(2147483647, 0) throws IndexOutOfBoundsException
            appliedTo(0, -2147483648) throws IndexOutOfBoundsException
            appliedTo(0, 2147483647) throws IndexOutOfBoundsException
            """);
    }

    private static void appliedToTellsFromNothingToAll() {
        Run.shows("Promise 21: Returns what a receipt has paid of a bill. 0 if it has bounced", """
            bill(0, 100, 7, 1000, 0) = 0
            bill(0, 20, 7, 0, 0) = 1
            bill(0, 5, 8, 10000, 0) = 2
            receive(0, 101, 7) = 0
            appliedTo(0, 0) = 90
            appliedTo(0, 1) = 11
            appliedTo(0, 2) = 0
            receive(0, 1, 8) = 1
            taken(2) = 5
            appliedTo(1, 2) = 0
            bounce(0) = 2
            appliedTo(0, 0) = 0
            appliedTo(0, 1) = 0
            """);
    }

    private static void appliedToTellsOfTheLastReceiptAndBill() {
        Run.shows("Promise 21: Returns what a receipt has paid of a bill. (the last receipt and the last bill)", """
            39 times: bill(0, 10, 1, 0, 0) = #
            bill(1, 10, 1, 0, 0) = 39
            29 times: receive(0, 10, 0) = #
            receive(1, 9, 0) = 29
            appliedTo(29, 39) = 9
            appliedTo(28, 28) = 10
            appliedTo(28, 39) = 0
            appliedTo(29, 0) = 0
            appliedTo(0, 0) = 10
            appliedTo(0, 1) = 0
            appliedTo(1, 0) = 0
            appliedTo(30, 39) throws IndexOutOfBoundsException
            appliedTo(29, 40) throws IndexOutOfBoundsException
            appliedTo(30, 40) throws IndexOutOfBoundsException
            """);
    }

    private static void unappliedTellsFromNothingToAll() {
        Run.shows("Promise 22: Returns what is not applied of a receipt, and was not paid back. 0 if it has bounced", """
            bill(0, 100, 7, 0, 0) = 0
            receive(0, 60, 0) = 0
            receive(0, 60, 0) = 1
            receive(0, 60, 0) = 2
            receive(0, 60, 0) = 3
            receipt 0: unapplied 0
            receipt 1: unapplied 20
            receipt 2: unapplied 60
            payBack(1) = 20
            receipt 1: unapplied 0
            bounce(0) = 1
            bounce(2) = 0
            receipt 0: unapplied 0
            receipt 1: unapplied 0
            receipt 2: unapplied 0
            receipt 3: unapplied 60
            """);
    }

    private static void hasBouncedTellsWhetherItHas() {
        Run.shows("Promise 23: Returns whether it has.", """
            bill(0, 100, 7, 0, 0) = 0
            receive(0, 60, 0) = 0
            receive(0, 60, 0) = 1
            receive(NONE, 60, 0) = 2
            receipt 0: hasBounced false
            receipt 1: hasBounced false
            payBack(1) = 20
            receipt 1: hasBounced false
            bounce(0) = 1
            bounce(2) = 0
            receipt 0: hasBounced true
            receipt 1: hasBounced false
            receipt 2: hasBounced true
            """);
    }

    // ---- promises 24 to 29

    private static void sumsAreNothingAtFirst() {
        Run.shows("Promises 24 to 29: of all receipts, together (there is none)", """
            bill(0, 100, 7, 0, 0) = 0
            sums: day 0, received 0, applied 0, allUnapplied 0, paidBack 0, bounced 0
            """);
    }

    private static void sumsOfOneReceipt() {
        Run.shows("Promises 24 to 29: of all receipts, together (one, a cent of it applied, then bounced)", """
            bill(0, 1, 7, 0, 0) = 0
            receive(0, 2, 0) = 0
            sums: day 0, received 2, applied 1, allUnapplied 1, paidBack 0, bounced 0
            advance(1) = 1
            bounce(0) = 1
            sums: day 1, received 2, applied 0, allUnapplied 0, paidBack 0, bounced 2
            """);
    }

    private static void sumsOfAReceiptForSeveralBills() {
        Run.shows("Promises 24 to 29: of all receipts, together (one that paid several bills, in several calls)", """
            bill(0, 1, 7, 0, 0) = 0
            bill(0, 5, 7, 0, 0) = 1
            bill(0, 20, 8, 1000, 0) = 2
            receive(0, 50, 7) = 0
            sums: received 50, applied 24, allUnapplied 26, paidBack 0, bounced 0
            bill(0, 7, 8, 0, 0) = 3
            apply(0) = 19
            receive(0, 3, 8) = 1
            sums: received 53, applied 31, allUnapplied 22, paidBack 0, bounced 0
            payBack(0) = 19
            sums: received 53, applied 31, allUnapplied 3, paidBack 19, bounced 0
            bounce(1) = 0
            sums: received 53, applied 31, allUnapplied 0, paidBack 19, bounced 3
            """);
    }

    private static void sumsOfThirtyLargestReceipts() {
        Run.shows("Promises 25 to 29: of all receipts, together (30 of the largest amount)", """
            40 times: bill(0, 1000000, 1, 0, 0)
            15 times: receive(0, 1000000, 1)
            15 times: receive(1, 1000000, 1)
            sums: received 30000000, applied 15000000, allUnapplied 15000000, paidBack 0, bounced 0
            15 times: bounce(#) = 1
            sums: received 30000000, applied 0, allUnapplied 15000000, paidBack 0, bounced 15000000
            bounce(29) = 0
            sums: received 30000000, applied 0, allUnapplied 14000000, paidBack 0, bounced 16000000
            """);
    }

    private static void sumsOfThirtyPaidBack() {
        Run.shows("Promise 28: Returns what was paid back of all receipts, together. (30 of the largest amount)", """
            30 times: receive(NONE, 1000000, 0)
            30 times: payBack(#) = 1000000
            sums: received 30000000, applied 0, allUnapplied 0, paidBack 30000000, bounced 0
            """);
    }
}
