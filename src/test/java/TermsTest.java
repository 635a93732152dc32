/**
 * The sentences of "Terms" on calls, limits, bills and what is due of them that name a boundary case, each with a run
 * of its own. The three steps are in StepsTest, disputes and bouncing in UndoingTest.
 */
final class TermsTest {

    public static void main(String[] args) {
        anObjectStandsAllItsCalls();
        everyCentIsSomewhere();
        aCallThatThrowsChangesNothing();
        theFirstOfSeveralExceptionsIsThrown();
        theFirstOfSeveralExceptionsIsThrownInFullBooks();
        customersAreZeroToSeven();
        thereCanBeFortyBills();
        fortyBillsAreTheMostEvenIfAllArePaid();
        thereCanBeThirtyReceipts();
        thirtyReceiptsAreTheMostEvenIfAllBounced();
        daysPassByAdvanceAlone();

        openIsTheAmountLessFourSums();
        anOpenCentIsOpen();
        nothingOpenIsNotOpen();
        discountIsRoundedDown();
        discountDoesNotWrapAround();
        discountNeedsTheWholeAmount();
        discountNeedsThatNothingIsWrittenOff();
        discountCanBeTakenAgain();
        discountLastsThroughItsLastDay();
        discountOfNoDaysLastsForADay();
        discountOfNinetyDaysLastsForThem();
        discountIsTakenOnTheLastDay();
        discountIsNotTakenBehindTheLastDay();
        dueIsOpenLessTheDiscount();
        noDiscountIsStillInFull();
        partTakesNoDiscount();
        notAppliedIsAtFirstTheAmount();
        theReadmeTellsItRight();
        Check.finish();
    }

    // ---- calls

    private static void anObjectStandsAllItsCalls() {
        Run.shows("An object is used for at most 512 calls after it has been made", """
            509 times: advance(100)
            bill(0, 100, 1, 1000, 90) = 0
            due(0) = 90
            day() = 50900
            """);
    }

    private static void everyCentIsSomewhere() {
        Run.shows("Every cent received is applied, unapplied, paid back or bounced.", """
            bill(0, 100, 7, 1000, 0) = 0
            receive(0, 130, 7) = 0
            sums: received 130, applied 90, allUnapplied 40, paidBack 0, bounced 0
            receive(NONE, 8, 0) = 1
            sums: received 138, applied 90, allUnapplied 48, paidBack 0, bounced 0
            payBack(1) = 8
            sums: received 138, applied 90, allUnapplied 40, paidBack 8, bounced 0
            bounce(0) = 1
            sums: received 138, applied 0, allUnapplied 0, paidBack 8, bounced 130
            """);
    }

    private static void aCallThatThrowsChangesNothing() {
        // Run looks at this for each row that throws: in every run, but here one of each kind in a rich state.
        Run.shows("A call that throws an exception changes nothing", """
            bill(0, 100, 7, 1000, 5) = 0
            bill(0, 60, 8, 0, 0) = 1
            bill(2, 30, 9, 10000, 3) = 2
            receive(0, 80, 7) = 0
            receive(0, 70, 8) = 1
            receive(NONE, 50, 0) = 2
            receive(1, 4, 0) = 3
            receive(1, 5, 0) = 4
            payBack(3) = 4
            bounce(4) = 0
            bill(8, 5, 1, 0, 0) throws IndexOutOfBoundsException
            bill(0, 1000001, 1, 0, 0) throws IllegalArgumentException
            bill(0, 5, 1, 0, 91) throws IllegalArgumentException
            receive(8, 5, 1) throws IndexOutOfBoundsException
            receive(0, 0, 8) throws IllegalArgumentException
            receive(NONE, 60, 10000) throws IllegalArgumentException
            assign(2, 8) throws IndexOutOfBoundsException
            assign(5, 0) throws IndexOutOfBoundsException
            assign(1, 1) throws IllegalStateException
            assign(4, 1) throws IllegalStateException
            apply(5) throws IndexOutOfBoundsException
            apply(2) throws IllegalStateException
            apply(4) throws IllegalStateException
            payBack(5) throws IndexOutOfBoundsException
            payBack(0) throws IllegalStateException
            payBack(3) throws IllegalStateException
            payBack(4) throws IllegalStateException
            bounce(5) throws IndexOutOfBoundsException
            bounce(3) throws IllegalStateException
            bounce(4) throws IllegalStateException
            settle(3, true) throws IndexOutOfBoundsException
            settle(1, true) throws IllegalStateException
            settle(2, false) throws IllegalStateException
            advance(0) throws IllegalArgumentException
            advance(101) throws IllegalArgumentException
            setFor(8, 1, 0) throws IndexOutOfBoundsException
            setFor(0, 0, 0) throws IllegalArgumentException
            bill 0: open 0, paid 80, taken 0, disputed 20, writtenOff 0
            bill 1: open 0, paid 60, taken 0, disputed 0, writtenOff 0
            bill 2: open 30, due 0, paid 0, taken 0, disputed 0, writtenOff 0
            sums: bills 3, receipts 5, day 0, received 209, applied 140, allUnapplied 60, paidBack 4, bounced 5
            """);
    }

    private static void theFirstOfSeveralExceptionsIsThrown() {
        Run.shows("if several exceptions apply, the one that its @throws lines name first is thrown", """
            bill(8, 0, 1, 0, 0) throws IndexOutOfBoundsException
            bill(8, 1, 0, 0, 0) throws IndexOutOfBoundsException
            bill(-1, 1, 1, 10001, 0) throws IndexOutOfBoundsException
            bill(-1, 1, 1, 0, 91) throws IndexOutOfBoundsException
            bill(8, -1, -1, -1, -1) throws IndexOutOfBoundsException
            receive(8, 0, 1) throws IndexOutOfBoundsException
            receive(-2, 1, -1) throws IndexOutOfBoundsException
            receive(0, 5, 0) = 0
            receive(NONE, 5, 0) = 1
            bounce(1) = 0
            assign(0, 8) throws IndexOutOfBoundsException
            assign(0, NONE) throws IndexOutOfBoundsException
            assign(1, 8) throws IndexOutOfBoundsException
            assign(2, 8) throws IndexOutOfBoundsException
            setFor(8, 0, 0) throws IndexOutOfBoundsException
            setFor(-1, 0, 0) throws IndexOutOfBoundsException
            setFor(0, 0, 3) throws IndexOutOfBoundsException
            setFor(0, 0, -1) throws IndexOutOfBoundsException
            setFor(8, 0, 3) throws IndexOutOfBoundsException
            """);
    }

    private static void theFirstOfSeveralExceptionsIsThrownInFullBooks() {
        Run.shows("if several exceptions apply, the one that its @throws lines name first is thrown (full books)", """
            40 times: bill(0, 1, 1, 0, 0) = #
            30 times: receive(7, 1, 0) = #
            bill(8, 1, 1, 0, 0) throws IndexOutOfBoundsException
            bill(8, 0, 1, 0, 0) throws IndexOutOfBoundsException
            bill(0, 0, 1, 0, 0) throws IllegalArgumentException
            bill(0, 1, 0, 0, 0) throws IllegalArgumentException
            bill(0, 1, 1, 10001, 0) throws IllegalArgumentException
            bill(0, 1, 1, 0, 91) throws IllegalArgumentException
            bill(0, 1, 1, 0, 0) throws IllegalStateException
            receive(8, 1, 0) throws IndexOutOfBoundsException
            receive(8, 0, 0) throws IndexOutOfBoundsException
            receive(0, 0, 0) throws IllegalArgumentException
            receive(0, 1, 10000) throws IllegalArgumentException
            receive(0, 1, 0) throws IllegalStateException
            """);
    }

    // ---- limits

    private static void customersAreZeroToSeven() {
        Run.shows("There are the customers 0 to 7", """
            8 times: bill(#, 9, 1, 0, 0) = #
            8 times: customer #: openOf 9
            8 times: receive(#, 2, 0) = #
            8 times: customer #: openOf 7
            8 times: receipt #: customerOf #
            bill(-1, 9, 1, 0, 0) throws IndexOutOfBoundsException
            bill(8, 9, 1, 0, 0) throws IndexOutOfBoundsException
            receive(-2, 9, 0) throws IndexOutOfBoundsException
            receive(8, 9, 0) throws IndexOutOfBoundsException
            openOf(-1) throws IndexOutOfBoundsException
            openOf(8) throws IndexOutOfBoundsException
            """);
    }

    private static void thereCanBeFortyBills() {
        Run.shows("there can be 40 bills, each numbered from 0 in their order", """
            40 times: bill(3, 5, 1, 0, 0) = #
            bill(3, 5, 1, 0, 0) throws IllegalStateException
            bills() = 40
            bill 0: open 5
            bill 39: open 5, due 5, paid 0, taken 0, disputed 0, writtenOff 0
            open(40) throws IndexOutOfBoundsException
            receive(3, 5, 0) = 0
            appliedTo(0, 0) = 5
            appliedTo(0, 39) = 0
            appliedTo(0, 40) throws IndexOutOfBoundsException
            settle(40, true) throws IndexOutOfBoundsException
            """);
    }

    private static void fortyBillsAreTheMostEvenIfAllArePaid() {
        Run.shows("there can be 40 bills: those that are paid count too", """
            39 times: bill(3, 5, 1, 0, 0) = #
            receive(3, 195, 1) = 0
            openOf(3) = 0
            bill(3, 5, 1, 0, 0) = 39
            bill(3, 5, 1, 0, 0) throws IllegalStateException
            """);
    }

    private static void thereCanBeThirtyReceipts() {
        Run.shows("there can be 30 receipts, each numbered from 0 in their order", """
            30 times: receive(NONE, 5, 0) = #
            receive(NONE, 5, 0) throws IllegalStateException
            receipts() = 30
            receipt 29: customerOf -1, unapplied 5, hasBounced false
            unapplied(30) throws IndexOutOfBoundsException
            assign(29, 7) = 5
            apply(29) = 5
            payBack(29) = 5
            bounce(28) = 0
            bounce(30) throws IndexOutOfBoundsException
            """);
    }

    private static void thirtyReceiptsAreTheMostEvenIfAllBounced() {
        Run.shows("there can be 30 receipts: those that bounced count too", """
            30 times: receive(0, 5, 0) = #
            30 times: bounce(#) = 0
            receive(0, 5, 0) throws IllegalStateException
            receipts() = 30
            """);
    }

    private static void daysPassByAdvanceAlone() {
        Run.shows("The first day is 0; days pass by advance alone.", """
            day() = 0
            bill(0, 10, 7, 0, 90) = 0
            receive(NONE, 20, 0) = 0
            receive(0, 5, 7) = 1
            assign(0, 0) = 20
            settle(0, false) = 5
            apply(0) = 15
            payBack(0) = 15
            bounce(1) = 1
            day() = 0
            advance(1) = 1
            day() = 1
            """);
    }

    // ---- bills

    private static void openIsTheAmountLessFourSums() {
        Run.shows("What is open of a bill is its amount less what is paid, less the discount that was taken, less what is"
            + " disputed, less what is written off.", """
            bill(0, 100, 7, 0, 0) = 0
            bill 0: open 100, paid 0, taken 0, disputed 0, writtenOff 0
            receive(0, 10, 0) = 0
            bill 0: open 90, paid 10, taken 0, disputed 0, writtenOff 0
            receive(0, 20, 7) = 1
            bill 0: open 0, paid 30, taken 0, disputed 70, writtenOff 0
            settle(0, true) = 70
            bill 0: open 0, paid 30, taken 0, disputed 0, writtenOff 70
            bounce(0) = 1
            bill 0: open 10, paid 20, taken 0, disputed 0, writtenOff 70
            receive(0, 4, 7) = 2
            bill 0: open 0, paid 24, taken 0, disputed 6, writtenOff 70
            bounce(1) = 1
            bill 0: open 20, paid 4, taken 0, disputed 6, writtenOff 70
            bill(0, 100, 8, 2500, 0) = 1
            receive(0, 75, 8) = 3
            bill 1: open 0, paid 75, taken 25, disputed 0, writtenOff 0
            """);
    }

    private static void anOpenCentIsOpen() {
        Run.shows("A bill is open if this is above 0. (1 is above 0)", """
            bill(4, 10, 7, 0, 0) = 0
            bill(4, 5, 8, 0, 0) = 1
            receive(4, 9, 0) = 0
            open(0) = 1
            setFor(4, 1, 0) = 0
            receive(NONE, 1, 7) = 1
            customerOf(1) = 4
            open(0) = 0
            bounce(1) = 1
            receive(4, 3, 0) = 2
            bill 0: open 0, paid 10
            bill 1: open 3, paid 2
            """);
    }

    private static void nothingOpenIsNotOpen() {
        Run.shows("A bill is open if this is above 0. (0 is not)", """
            bill(4, 10, 7, 10000, 0) = 0
            bill(4, 10, 7, 0, 0) = 1
            bill(4, 10, 7, 0, 0) = 2
            receive(4, 10, 7) = 0
            receive(4, 4, 7) = 1
            settle(2, true) = 6
            bill 0: open 0, taken 10
            bill 1: open 0, paid 10
            bill 2: open 0, writtenOff 6
            setFor(4, 10, 0) = -1
            receive(NONE, 10, 7) = 2
            customerOf(2) = -1
            receive(4, 10, 7) = 3
            unapplied(3) = 10
            bounce(3) = 0
            bill(4, 10, 7, 0, 0) = 3
            receive(4, 3, 7) = 4
            disputed(3) = 7
            receive(NONE, 10, 7) = 5
            receipt 5: customerOf -1, unapplied 10
            """);
    }

    private static void discountIsRoundedDown() {
        Run.shows("The discount of a bill is its amount, times the rate, divided by 10000, rounded down.", """
            bill(0, 1, 1, 9999, 0) = 0
            due(0) = 1
            bill(0, 1, 1, 10000, 0) = 1
            due(1) = 0
            bill(0, 9999, 1, 1, 0) = 2
            due(2) = 9999
            bill(0, 10000, 1, 1, 0) = 3
            due(3) = 9999
            bill(0, 3, 1, 5000, 0) = 4
            due(4) = 2
            bill(0, 19999, 1, 1, 0) = 5
            due(5) = 19998
            bill(0, 100, 1, 0, 0) = 6
            due(6) = 100
            """);
    }

    private static void discountDoesNotWrapAround() {
        Run.shows("its amount, times the rate: the largest amount with the largest rate, and where an int ends", """
            bill(0, 1000000, 1, 10000, 0) = 0
            bill 0: open 1000000, due 0
            bill(0, 1000000, 1, 9999, 0) = 1
            due(1) = 100
            bill(0, 999999, 1, 9999, 0) = 2
            due(2) = 100
            bill(0, 214748, 1, 10000, 0) = 3
            due(3) = 0
            bill(0, 214749, 1, 10000, 0) = 4
            due(4) = 0
            bill(0, 429497, 1, 10000, 0) = 5
            due(5) = 0
            bill(0, 1000000, 1, 2147, 0) = 6
            due(6) = 785300
            bill(0, 1000000, 1, 2148, 0) = 7
            due(7) = 785200
            bill(5, 1000000, 7, 10000, 0) = 8
            receive(5, 1, 7) = 0
            bill 8: open 0, paid 0, taken 1000000
            """);
    }

    private static void discountNeedsTheWholeAmount() {
        Run.shows("It can be taken if its whole amount is open: not if a cent is paid, or disputed", """
            bill(0, 100, 7, 1000, 9) = 0
            due(0) = 90
            receive(0, 1, 0) = 0
            bill 0: open 99, due 99
            receive(0, 98, 7) = 1
            bill 0: open 0, due 0, disputed 1
            bounce(0) = 1
            bill 0: open 1, due 1, disputed 1
            receive(0, 1, 0) = 2
            bill 0: open 0, paid 99, taken 0, disputed 1
            """);
    }

    private static void discountNeedsThatNothingIsWrittenOff() {
        Run.shows("It can be taken if its whole amount is open: not if a cent is written off", """
            bill(0, 100, 7, 1000, 9) = 0
            receive(0, 1, 0) = 0
            receive(0, 98, 7) = 1
            settle(0, true) = 1
            bounce(0) = 1
            bounce(1) = 1
            bill 0: open 99, due 99, paid 0, taken 0, disputed 0, writtenOff 1
            receive(0, 99, 7) = 2
            bill 0: open 0, due 0, paid 99, taken 0, writtenOff 1
            """);
    }

    private static void discountCanBeTakenAgain() {
        Run.shows("It can be taken if its whole amount is open: also when it is open again", """
            bill(0, 100, 7, 1000, 9) = 0
            receive(0, 90, 7) = 0
            bill 0: open 0, due 0, taken 10
            bounce(0) = 1
            bill 0: open 100, due 90, taken 0
            receive(0, 40, 7) = 1
            settle(0, false) = 60
            bill 0: open 60, due 60
            bounce(1) = 1
            bill 0: open 100, due 90
            receive(0, 90, 0) = 2
            bill 0: open 0, due 0, paid 90, taken 10
            """);
    }

    private static void discountLastsThroughItsLastDay() {
        Run.shows("now is no later than its day and its discount days, added", """
            advance(5) = 5
            bill(0, 100, 1, 1000, 2) = 0
            due(0) = 90
            advance(1) = 6
            due(0) = 90
            advance(1) = 7
            due(0) = 90
            setFor(0, 90, 0) = 0
            setFor(0, 100, 0) = -1
            advance(1) = 8
            due(0) = 100
            setFor(0, 90, 0) = -1
            setFor(0, 100, 0) = 0
            """);
    }

    private static void discountOfNoDaysLastsForADay() {
        Run.shows("now is no later than its day and its discount days, added (0 days)", """
            bill(0, 100, 1, 1000, 0) = 0
            due(0) = 90
            advance(1) = 1
            due(0) = 100
            bill(0, 100, 1, 1000, 0) = 1
            due(1) = 90
            advance(1) = 2
            due(1) = 100
            """);
    }

    private static void discountOfNinetyDaysLastsForThem() {
        Run.shows("now is no later than its day and its discount days, added (90 days)", """
            advance(100) = 100
            bill(0, 100, 1, 1000, 90) = 0
            advance(90) = 190
            due(0) = 90
            advance(1) = 191
            due(0) = 100
            advance(100) = 291
            due(0) = 100
            """);
    }

    private static void discountIsTakenOnTheLastDay() {
        Run.shows("The discount can be taken on its last day, in each step", """
            bill(0, 100, 7, 1000, 3) = 0
            bill(1, 100, 7, 1000, 3) = 1
            bill(2, 100, 7, 1000, 3) = 2
            advance(3) = 3
            receive(0, 100, 7) = 0
            bill 0: open 0, paid 90, taken 10
            receive(1, 90, 0) = 1
            bill 1: open 0, paid 90, taken 10
            receive(2, 91, 0) = 2
            bill 2: open 0, paid 90, taken 10
            """);
    }

    private static void discountIsNotTakenBehindTheLastDay() {
        Run.shows("The discount can't be taken on the day behind its last day, in each step", """
            bill(0, 100, 7, 1000, 3) = 0
            bill(1, 100, 7, 1000, 3) = 1
            bill(2, 100, 7, 1000, 3) = 2
            bill(3, 100, 7, 1000, 3) = 3
            advance(4) = 4
            receive(0, 90, 7) = 0
            bill 0: open 0, paid 90, taken 0, disputed 10
            receive(1, 100, 0) = 1
            bill 1: open 0, paid 100, taken 0
            receive(2, 101, 0) = 2
            bill 2: open 0, paid 100, taken 0
            receive(3, 90, 0) = 3
            bill 3: open 10, paid 90, taken 0
            """);
    }

    private static void dueIsOpenLessTheDiscount() {
        Run.shows("What is due of a bill is what is open, less the discount if it can be taken.", """
            bill(0, 100, 7, 10000, 1) = 0
            bill(0, 100, 7, 9900, 1) = 1
            bill(0, 100, 7, 0, 1) = 2
            bill 0: open 100, due 0
            bill 1: open 100, due 1
            bill 2: open 100, due 100
            advance(2) = 2
            bill 0: open 100, due 100
            bill 1: open 100, due 100
            receive(0, 1, 0) = 0
            bill 0: open 99, due 99
            receive(0, 99, 7) = 1
            bill 0: open 0, due 0
            """);
    }

    private static void noDiscountIsStillInFull() {
        Run.shows("To pay a bill in full with a receipt is to pay what is due, and to take the discount if it can be"
            + " taken. (a discount of 0, a discount of all but a cent)", """
            bill(0, 99, 7, 100, 9) = 0
            receive(0, 99, 7) = 0
            bill 0: open 0, due 0, paid 99, taken 0, disputed 0
            bounce(0) = 1
            bill 0: open 99, due 99
            bill(1, 100, 7, 9900, 9) = 1
            receive(1, 1, 7) = 1
            bill 1: open 0, due 0, paid 1, taken 99, disputed 0
            """);
    }

    private static void partTakesNoDiscount() {
        Run.shows("To pay it in part is to pay less than what is due, without a discount. (a cent less)", """
            bill(0, 100, 7, 1000, 9) = 0
            bill(1, 100, 7, 1000, 9) = 1
            receive(0, 89, 7) = 0
            bill 0: open 0, due 0, paid 89, taken 0, disputed 11
            receive(1, 89, 0) = 1
            bill 1: open 11, due 11, paid 89, taken 0, disputed 0
            """);
    }

    private static void notAppliedIsAtFirstTheAmount() {
        Run.shows("what is not applied of it is at first its amount", """
            receive(NONE, 1, 0) = 0
            receive(NONE, 1000000, 9999) = 1
            receive(6, 1000000, 0) = 2
            receipt 0: unapplied 1, customerOf -1
            receipt 1: unapplied 1000000, customerOf -1
            receipt 2: unapplied 1000000, customerOf 6
            sums: received 2000001, applied 0, allUnapplied 2000001
            """);
    }

    // ---- the example in README.md

    private static void theReadmeTellsItRight() {
        Run.shows("README.md: the example", """
            bill(0, 10000, 7, 200, 10) = 0
            receive(0, 9800, 7) = 0
            open(0) = 0
            taken(0) = 200
            unapplied(0) = 0
            bounce(0) = 1
            due(0) = 9800
            receive(NONE, 9700, 7) = 1
            customerOf(1) = 0
            disputed(0) = 300
            settle(0, true) = 300
            """);
    }
}
