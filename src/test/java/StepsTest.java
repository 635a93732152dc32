/** The sentences of "Terms" on the three steps that name a boundary case, each with a run of its own. */
final class StepsTest {

    public static void main(String[] args) {
        aReceiptWithoutReferenceNamesNoBill();
        aReferenceIsFoundFromOneToTheHighest();
        namedBillsGoByRisingNumbers();
        namedBillsAreThoseOfTheCustomer();
        anUnknownPayerIsTheFirstOpenBillsCustomer();
        aDisputedBillFindsNoPayer();
        noOpenBillFindsNoPayer();
        noOpenBillOfFortyFindsNoPayer();
        thePayerIsFoundAmongAllBills();
        namedBillsEndWithTheLastCent();
        namedBillsAreLeftAloneWithoutACent();
        aNamedBillIsPaidInFullWithJustWhatIsDue();
        aNamedBillIsPaidInPartWithACentLess();
        aCentOverGoesToTheNextNamedBill();
        aNamedBillIsPaidWithNothing();
        allThatIsOpenBecomesDisputed();
        aDisputeIsBesideTheFormerOne();
        aDisputeIsRaisedByTheLastReceipt();
        aPaymentInFullRaisesNoDispute();
        aReceiptGoesThroughFortyNamedBills();

        noCustomerNoSet();
        nothingLeftNoSet();
        aCentIsEnoughForASet();
        aSetIsForWhatStepOneLeft();
        aSetOfOneIsJustInFull();
        aSetOfTwoIsJustInFull();
        aSetOfThreeIsJustInFull();
        fourBillsAreNoSet();
        aBillIsInASetOnce();
        aSetIsOfOpenBills();
        aSetIsOfBillsOfTheCustomer();
        aSetIsOfWhatIsDue();
        aBillOfWhichNothingIsDueIsInNoSet();
        theFewestBillsAreTaken();
        theLowestNumberIsTakenFirst();
        theNextNumberIsTakenNext();
        theThirdNumberIsTakenLast();
        aSetIsFoundAtTheEndsOfAFullBook();

        noCustomerNoOldestBill();
        theOldestBillsGoByRisingDays();
        billsOfOneDayGoByRisingNumbers();
        theOldestBillsEndWithTheLastCent();
        anOldBillIsPaidInPartWithACentLess();
        aCentOverGoesToTheNextOldBill();
        anOldBillIsPaidWithNothing();
        nothingOfItIsLeftForABillOfNothing();
        whatFindsNoBillStaysUnapplied();
        aReceiptGoesThroughFortyOldBills();
        theLargestSumsAreApplied();
        Check.finish();
    }

    // ---- step 1

    private static void aReceiptWithoutReferenceNamesNoBill() {
        Run.shows("If it has a reference", """
            bill(0, 100, 1, 0, 0) = 0
            receive(0, 60, 0) = 0
            bill 0: open 40, paid 60, disputed 0
            receive(NONE, 30, 0) = 1
            receipt 1: customerOf -1, unapplied 30
            receive(0, 30, 1) = 2
            bill 0: open 0, paid 90, disputed 10
            """);
    }

    private static void aReferenceIsFoundFromOneToTheHighest() {
        Run.shows("the open bills with this reference (the references 1 and 9999, and those beside another)", """
            bill(0, 10, 1, 0, 0) = 0
            bill(1, 10, 9999, 0, 0) = 1
            bill(2, 10, 500, 0, 0) = 2
            receive(NONE, 10, 499) = 0
            receive(NONE, 10, 501) = 1
            receive(NONE, 10, 2) = 2
            receive(NONE, 10, 9998) = 3
            4 times: receipt #: customerOf -1, unapplied 10
            receive(NONE, 10, 1) = 4
            receive(NONE, 10, 9999) = 5
            receipt 4: customerOf 0, unapplied 0
            receipt 5: customerOf 1, unapplied 0
            """);
    }

    private static void namedBillsGoByRisingNumbers() {
        Run.shows("are gone through by rising numbers", """
            bill(0, 50, 3, 0, 0) = 0
            bill(0, 20, 7, 0, 0) = 1
            advance(1) = 1
            bill(0, 30, 7, 1000, 0) = 2
            bill(0, 40, 7, 0, 0) = 3
            bill(0, 60, 7, 0, 0) = 4
            receive(0, 60, 7) = 0
            bill 0: open 50, paid 0, disputed 0
            bill 1: open 0, paid 20, disputed 0
            bill 2: open 0, paid 27, taken 3, disputed 0
            bill 3: open 0, paid 13, disputed 27
            bill 4: open 60, paid 0, disputed 0
            receipt 0: unapplied 0
            """);
    }

    private static void namedBillsAreThoseOfTheCustomer() {
        Run.shows("the open bills with this reference, those of its customer", """
            bill(1, 20, 7, 0, 0) = 0
            bill(2, 30, 7, 0, 0) = 1
            bill(3, 10, 7, 0, 0) = 2
            receive(2, 100, 7) = 0
            bill 0: open 20, paid 0
            bill 1: open 0, paid 30
            bill 2: open 10, paid 0
            receipt 0: customerOf 2, unapplied 70
            receive(0, 20, 7) = 1
            receipt 1: customerOf 0, unapplied 20
            """);
    }

    private static void anUnknownPayerIsTheFirstOpenBillsCustomer() {
        Run.shows("if it has no customer yet, it gets the customer of the first open bill with this reference", """
            bill(3, 20, 8, 0, 0) = 0
            bill(1, 20, 7, 0, 0) = 1
            bill(2, 30, 7, 0, 0) = 2
            bill(1, 25, 7, 0, 0) = 3
            bill(2, 40, 7, 0, 0) = 4
            receive(1, 20, 0) = 0
            open(1) = 0
            receive(NONE, 31, 7) = 1
            customerOf(1) = 2
            bill 2: open 0, paid 30
            bill 3: open 25, paid 0
            bill 4: open 0, paid 1, disputed 39
            """);
    }

    private static void aDisputedBillFindsNoPayer() {
        Run.shows("the customer of the first open bill with this reference (a bill whose rest is disputed is not open)", """
            bill(1, 20, 7, 0, 0) = 0
            bill(0, 30, 7, 0, 0) = 1
            receive(1, 19, 7) = 0
            disputed(0) = 1
            receive(NONE, 30, 7) = 1
            customerOf(1) = 0
            settle(0, false) = 1
            receive(NONE, 30, 7) = 2
            receipt 2: customerOf 1, unapplied 29
            """);
    }

    private static void noOpenBillFindsNoPayer() {
        Run.shows("a customer or none yet (no open bill has the reference)", """
            bill(0, 20, 7, 0, 0) = 0
            bill(0, 50, 8, 0, 0) = 1
            receive(0, 20, 7) = 0
            receive(NONE, 50, 7) = 1
            receive(NONE, 50, 9) = 2
            receipt 1: customerOf -1, unapplied 50
            receipt 2: customerOf -1, unapplied 50
            open(1) = 50
            """);
    }

    private static void noOpenBillOfFortyFindsNoPayer() {
        Run.shows("a customer or none yet (none of 40 bills has the reference, or those that have it are not open)", """
            bill(0, 20, 7, 0, 0) = 0
            38 times: bill(3, 20, 1, 0, 0)
            bill(7, 20, 7, 0, 0) = 39
            receive(0, 20, 7) = 0
            receive(7, 20, 7) = 1
            receive(NONE, 50, 7) = 2
            receive(NONE, 50, 9) = 3
            receipt 2: customerOf -1, unapplied 50
            receipt 3: customerOf -1, unapplied 50
            customer 3: openOf 760
            """);
    }

    private static void thePayerIsFoundAmongAllBills() {
        Run.shows("the customer of the first open bill with this reference (the first and the last of 40 bills)", """
            bill(7, 20, 5, 0, 0) = 0
            38 times: bill(3, 20, 1, 0, 0)
            bill(0, 20, 6, 0, 0) = 39
            receive(NONE, 20, 5) = 0
            receive(NONE, 20, 6) = 1
            receipt 0: customerOf 7, unapplied 0
            receipt 1: customerOf 0, unapplied 0
            appliedTo(1, 39) = 20
            """);
    }

    private static void namedBillsEndWithTheLastCent() {
        Run.shows("As long as something is not applied (step 1: just used up, so that the next bill has no dispute)", """
            bill(0, 20, 7, 0, 0) = 0
            bill(0, 30, 7, 0, 0) = 1
            receive(0, 20, 7) = 0
            bill 0: open 0, paid 20, disputed 0
            bill 1: open 30, paid 0, disputed 0
            appliedTo(0, 1) = 0
            bounce(0) = 1
            receive(0, 21, 7) = 1
            bill 1: open 0, paid 1, disputed 29
            bounce(1) = 2
            """);
    }

    private static void namedBillsAreLeftAloneWithoutACent() {
        Run.shows("As long as something is not applied (step 1: then a bill of which nothing is due is not paid)", """
            bill(0, 20, 7, 0, 0) = 0
            bill(0, 30, 7, 10000, 0) = 1
            receive(0, 20, 7) = 0
            bill 1: open 30, due 0, taken 0
            bounce(0) = 1
            receive(0, 21, 7) = 1
            bill 1: open 0, taken 30
            unapplied(1) = 1
            bounce(1) = 2
            """);
    }

    private static void aNamedBillIsPaidInFullWithJustWhatIsDue() {
        Run.shows("each is paid in full (step 1: just what is due)", """
            bill(0, 100, 7, 200, 0) = 0
            receive(0, 98, 7) = 0
            bill 0: open 0, paid 98, taken 2, disputed 0
            bill(1, 1, 8, 0, 0) = 1
            receive(1, 1, 8) = 1
            bill 1: open 0, paid 1, taken 0, disputed 0
            """);
    }

    private static void aNamedBillIsPaidInPartWithACentLess() {
        Run.shows("or, if that is less than what is due, in part (step 1: a cent less)", """
            bill(0, 100, 7, 200, 0) = 0
            receive(0, 97, 7) = 0
            bill 0: open 0, paid 97, taken 0, disputed 3
            bill(1, 2, 8, 0, 0) = 1
            receive(1, 1, 8) = 1
            bill 1: open 0, paid 1, disputed 1
            """);
    }

    private static void aCentOverGoesToTheNextNamedBill() {
        Run.shows("each is paid in full, or, if that is less than what is due, in part (step 1: a cent over)", """
            bill(0, 100, 7, 200, 0) = 0
            bill(0, 1, 7, 0, 0) = 1
            receive(0, 99, 7) = 0
            bill 0: open 0, paid 98, taken 2, disputed 0
            bill 1: open 0, paid 1, disputed 0
            unapplied(0) = 0
            """);
    }

    private static void aNamedBillIsPaidWithNothing() {
        Run.shows("(A bill of which nothing is due, as its discount is its whole amount, is paid in full with 0.) (step 1)",
            """
            bill(0, 10, 7, 10000, 0) = 0
            bill(0, 10, 7, 10000, 0) = 1
            bill(0, 5, 7, 0, 0) = 2
            bill(0, 1, 7, 10000, 0) = 3
            receive(0, 5, 7) = 0
            bill 0: open 0, due 0, paid 0, taken 10, disputed 0
            bill 1: open 0, paid 0, taken 10, disputed 0
            bill 2: open 0, paid 5, taken 0
            bill 3: open 1, due 0, taken 0
            appliedTo(0, 0) = 0
            bounce(0) = 3
            bill 0: open 10, taken 0
            bill(1, 9, 8, 10000, 0) = 4
            receive(NONE, 1, 8) = 1
            receipt 1: customerOf 1, unapplied 1
            bill 4: open 0, paid 0, taken 9
            """);
    }

    private static void allThatIsOpenBecomesDisputed() {
        Run.shows("then all that is open of that bill becomes disputed", """
            bill(0, 100, 7, 1000, 9) = 0
            receive(0, 89, 7) = 0
            bill 0: open 0, disputed 11
            bill(1, 1000000, 8, 10000, 0) = 1
            bill(1, 1000000, 8, 9999, 0) = 2
            receive(1, 99, 8) = 1
            bill 1: open 0, paid 0, taken 1000000, disputed 0
            bill 2: open 0, paid 99, taken 0, disputed 999901
            bill(2, 1000000, 9, 0, 0) = 3
            receive(2, 1, 9) = 2
            bill 3: open 0, paid 1, disputed 999999
            """);
    }

    private static void aDisputeIsBesideTheFormerOne() {
        Run.shows("beside what is disputed of it already", """
            bill(0, 100, 7, 0, 0) = 0
            receive(0, 30, 0) = 0
            receive(0, 50, 7) = 1
            bill 0: open 0, disputed 20
            bounce(0) = 1
            bill 0: open 30, disputed 20
            receive(0, 29, 7) = 2
            bill 0: open 0, paid 79, disputed 21
            settle(0, true) = 21
            bill 0: open 0, paid 79, disputed 0, writtenOff 21
            """);
    }

    private static void aDisputeIsRaisedByTheLastReceipt() {
        Run.shows("its dispute is raised by this receipt from now on", """
            bill(0, 100, 7, 0, 0) = 0
            receive(0, 30, 0) = 0
            receive(0, 50, 7) = 1
            bounce(0) = 1
            receive(0, 10, 7) = 2
            bill 0: open 0, paid 60, disputed 40
            bounce(1) = 1
            bill 0: open 50, paid 10, disputed 40
            bounce(2) = 1
            bill 0: open 100, paid 0, disputed 0
            """);
    }

    private static void aPaymentInFullRaisesNoDispute() {
        Run.shows("in part; then all that is open of that bill becomes disputed (in full: its dispute stays as it is)", """
            bill(0, 100, 7, 0, 0) = 0
            receive(0, 30, 0) = 0
            receive(0, 50, 7) = 1
            bounce(0) = 1
            receive(0, 30, 7) = 2
            bill 0: open 0, paid 80, disputed 20
            bounce(2) = 1
            bill 0: open 30, paid 50, disputed 20
            receive(0, 30, 7) = 3
            bounce(1) = 1
            bill 0: open 70, paid 30, disputed 0
            """);
    }

    private static void aReceiptGoesThroughFortyNamedBills() {
        Run.shows("the open bills with this reference are gone through (all 40)", """
            40 times: bill(0, 2, 1, 0, 0) = #
            receive(0, 79, 1) = 0
            bill 0: open 0, paid 2
            bill 38: open 0, paid 2, disputed 0
            bill 39: open 0, paid 1, disputed 1
            bounce(0) = 40
            openOf(0) = 80
            receive(0, 81, 1) = 1
            bill 39: open 0, paid 2
            unapplied(1) = 1
            """);
    }

    // ---- step 2

    private static void noCustomerNoSet() {
        Run.shows("If it has a customer (step 2)", """
            bill(0, 10, 1, 0, 0) = 0
            receive(NONE, 10, 0) = 0
            receipt 0: customerOf -1, unapplied 10
            open(0) = 10
            assign(0, 0) = 0
            open(0) = 0
            """);
    }

    private static void nothingLeftNoSet() {
        Run.shows("and something is not applied (steps 2 and 3: nothing)", """
            bill(0, 10, 1, 0, 0) = 0
            receive(0, 10, 1) = 0
            bill(0, 10, 2, 10000, 0) = 1
            bill(0, 10, 2, 0, 0) = 2
            apply(0) = 0
            bill 1: open 10, due 0, taken 0
            bill 2: open 10
            bounce(0) = 1
            """);
    }

    private static void aCentIsEnoughForASet() {
        Run.shows("and something is not applied (step 2: a cent of it)", """
            bill(0, 100, 1, 0, 0) = 0
            bill(0, 1, 2, 0, 0) = 1
            bill(0, 50, 7, 0, 0) = 2
            bill(0, 100, 3, 9900, 0) = 3
            receive(0, 51, 7) = 0
            bill 0: open 100
            bill 1: open 0, paid 1
            bill 2: open 0, paid 50
            receive(0, 1, 0) = 1
            bill 0: open 100
            bill 3: open 0, paid 1, taken 99
            """);
    }

    private static void aSetIsForWhatStepOneLeft() {
        Run.shows("is just what is not applied (behind step 1)", """
            bill(0, 100, 1, 0, 0) = 0
            bill(0, 40, 2, 0, 0) = 1
            bill(0, 70, 3, 0, 0) = 2
            bill(0, 30, 9, 0, 0) = 3
            receive(0, 70, 9) = 0
            bill 0: open 100
            bill 1: open 0, paid 40
            bill 2: open 70
            bill 3: open 0, paid 30
            """);
    }

    private static void aSetOfOneIsJustInFull() {
        Run.shows("sets of 1 to 3 open bills: 1 (just the sum, a cent less, a cent more)", """
            bill(0, 100, 1, 0, 0) = 0
            bill(0, 40, 2, 0, 0) = 1
            setFor(0, 39, 0) = -1
            setFor(0, 40, 0) = 1
            setFor(0, 40, 1) = -1
            setFor(0, 40, 2) = -1
            setFor(0, 41, 0) = -1
            receive(0, 39, 0) = 0
            bill 0: open 61
            bill 1: open 40
            receive(0, 40, 0) = 1
            bill 0: open 61
            bill 1: open 0
            """);
    }

    private static void aSetOfTwoIsJustInFull() {
        Run.shows("sets of 1 to 3 open bills: 2 (just the sum, a cent less, a cent more)", """
            bill(0, 100, 1, 0, 0) = 0
            bill(0, 40, 2, 0, 0) = 1
            bill(0, 50, 3, 1000, 0) = 2
            setFor(0, 84, 0) = -1
            setFor(0, 85, 0) = 1
            setFor(0, 85, 1) = 2
            setFor(0, 85, 2) = -1
            setFor(0, 86, 0) = -1
            receive(0, 85, 0) = 0
            bill 0: open 100
            bill 1: open 0, paid 40
            bill 2: open 0, paid 45, taken 5
            appliedTo(0, 1) = 40
            appliedTo(0, 2) = 45
            """);
    }

    private static void aSetOfThreeIsJustInFull() {
        Run.shows("sets of 1 to 3 open bills: 3 (just the sum, a cent less, a cent more)", """
            bill(0, 100, 1, 0, 0) = 0
            bill(0, 40, 2, 0, 0) = 1
            bill(0, 50, 3, 1000, 0) = 2
            bill(0, 7, 4, 0, 0) = 3
            setFor(0, 91, 0) = -1
            setFor(0, 92, 0) = 1
            setFor(0, 92, 1) = 2
            setFor(0, 92, 2) = 3
            setFor(0, 93, 0) = -1
            receive(0, 92, 0) = 0
            bill 0: open 100
            bill 1: open 0, paid 40
            bill 2: open 0, paid 45, taken 5
            bill 3: open 0, paid 7
            bounce(0) = 3
            """);
    }

    private static void fourBillsAreNoSet() {
        Run.shows("sets of 1 to 3 open bills: not 4", """
            bill(0, 100, 1, 0, 0) = 0
            bill(0, 1, 1, 0, 0) = 1
            bill(0, 2, 1, 0, 0) = 2
            bill(0, 4, 1, 0, 0) = 3
            bill(0, 8, 1, 0, 0) = 4
            setFor(0, 14, 0) = 2
            setFor(0, 15, 0) = -1
            setFor(0, 15, 1) = -1
            setFor(0, 15, 2) = -1
            receive(0, 15, 0) = 0
            bill 0: open 85
            customer 0: openOf 100
            """);
    }

    private static void aBillIsInASetOnce() {
        Run.shows("sets of 1 to 3 open bills (a bill is in a set once)", """
            bill(0, 5, 1, 0, 0) = 0
            setFor(0, 5, 0) = 0
            setFor(0, 10, 0) = -1
            setFor(0, 15, 0) = -1
            bill(0, 5, 1, 0, 0) = 1
            setFor(0, 10, 0) = 0
            setFor(0, 10, 1) = 1
            setFor(0, 15, 0) = -1
            bill(0, 5, 1, 0, 0) = 2
            setFor(0, 15, 0) = 0
            setFor(0, 15, 1) = 1
            setFor(0, 15, 2) = 2
            setFor(0, 20, 0) = -1
            """);
    }

    private static void aSetIsOfOpenBills() {
        Run.shows("of all sets of 1 to 3 open bills (paid, in part, disputed)", """
            bill(0, 10, 1, 0, 0) = 0
            bill(0, 10, 2, 0, 0) = 1
            bill(0, 30, 3, 0, 0) = 2
            setFor(0, 10, 0) = 0
            receive(0, 10, 1) = 0
            setFor(0, 10, 0) = 1
            setFor(0, 20, 0) = -1
            receive(0, 25, 3) = 1
            setFor(0, 5, 0) = -1
            setFor(0, 30, 0) = -1
            settle(2, false) = 5
            setFor(0, 5, 0) = 2
            setFor(0, 15, 0) = 1
            setFor(0, 15, 1) = 2
            """);
    }

    private static void aSetIsOfBillsOfTheCustomer() {
        Run.shows("open bills of the customer", """
            bill(1, 10, 1, 0, 0) = 0
            bill(0, 10, 1, 0, 0) = 1
            bill(1, 20, 1, 0, 0) = 2
            setFor(0, 10, 0) = 1
            setFor(1, 10, 0) = 0
            setFor(0, 20, 0) = -1
            setFor(0, 30, 0) = -1
            setFor(1, 30, 1) = 2
            setFor(2, 10, 0) = -1
            receive(0, 10, 0) = 0
            bill 0: open 10
            bill 1: open 0
            """);
    }

    private static void aSetIsOfWhatIsDue() {
        Run.shows("for which what is due, added up, is just what is not applied", """
            bill(0, 100, 1, 1000, 1) = 0
            bill(0, 10, 1, 0, 0) = 1
            setFor(0, 90, 0) = 0
            setFor(0, 100, 0) = 0
            setFor(0, 100, 1) = 1
            setFor(0, 110, 0) = -1
            advance(1) = 1
            setFor(0, 90, 0) = 0
            advance(1) = 2
            setFor(0, 90, 0) = -1
            setFor(0, 100, 0) = 0
            setFor(0, 100, 1) = -1
            setFor(0, 110, 1) = 1
            """);
    }

    private static void aBillOfWhichNothingIsDueIsInNoSet() {
        Run.shows("that with the fewest bills is taken (so none with a bill of which nothing is due)", """
            bill(0, 10, 1, 10000, 0) = 0
            bill(0, 10, 1, 10000, 0) = 1
            bill(0, 10, 1, 0, 0) = 2
            bill(0, 5, 1, 0, 0) = 3
            bill(0, 7, 1, 0, 0) = 4
            setFor(0, 10, 0) = 2
            setFor(0, 10, 1) = -1
            setFor(0, 12, 0) = 3
            setFor(0, 12, 1) = 4
            setFor(0, 12, 2) = -1
            receive(0, 12, 0) = 0
            bill 0: open 10, due 0, taken 0
            bill 1: open 10, due 0, taken 0
            bill 2: open 10
            bill 3: open 0
            bill 4: open 0
            bounce(0) = 2
            """);
    }

    private static void theFewestBillsAreTaken() {
        Run.shows("that with the fewest bills is taken", """
            bill(0, 1, 1, 0, 0) = 0
            bill(0, 2, 1, 0, 0) = 1
            bill(0, 3, 1, 0, 0) = 2
            bill(0, 5, 1, 0, 0) = 3
            bill(0, 6, 1, 0, 0) = 4
            setFor(0, 6, 0) = 4
            setFor(0, 6, 1) = -1
            setFor(0, 8, 0) = 1
            setFor(0, 8, 1) = 4
            setFor(0, 8, 2) = -1
            receive(0, 6, 0) = 0
            bill 4: open 0
            customer 0: openOf 11
            receive(0, 6, 0) = 1
            bill 0: open 0
            bill 3: open 0
            customer 0: openOf 5
            """);
    }

    private static void theLowestNumberIsTakenFirst() {
        Run.shows("of several the one whose lowest number is lower", """
            bill(0, 4, 1, 0, 0) = 0
            bill(0, 1, 1, 0, 0) = 1
            bill(0, 9, 1, 0, 0) = 2
            bill(0, 6, 1, 0, 0) = 3
            bill(0, 4, 1, 0, 0) = 4
            setFor(0, 4, 0) = 0
            setFor(0, 10, 0) = 0
            setFor(0, 10, 1) = 3
            setFor(0, 14, 0) = 0
            setFor(0, 14, 1) = 1
            setFor(0, 14, 2) = 2
            receive(0, 10, 0) = 0
            bill 0: open 0
            bill 1: open 1
            bill 2: open 9
            bill 3: open 0
            bill 4: open 4
            """);
    }

    private static void theNextNumberIsTakenNext() {
        Run.shows("then whose next one", """
            bill(0, 4, 1, 0, 0) = 0
            bill(0, 6, 1, 0, 0) = 1
            bill(0, 3, 1, 0, 0) = 2
            bill(0, 6, 1, 0, 0) = 3
            bill(0, 9, 1, 0, 0) = 4
            setFor(0, 10, 0) = 0
            setFor(0, 10, 1) = 1
            setFor(0, 13, 0) = 0
            setFor(0, 13, 1) = 4
            setFor(0, 16, 0) = 0
            setFor(0, 16, 1) = 1
            setFor(0, 16, 2) = 3
            receive(0, 10, 0) = 0
            bill 1: open 0
            bill 3: open 6
            """);
    }

    private static void theThirdNumberIsTakenLast() {
        Run.shows("and so on", """
            bill(0, 1, 1, 0, 0) = 0
            bill(0, 2, 1, 0, 0) = 1
            bill(0, 20, 1, 0, 0) = 2
            bill(0, 4, 1, 0, 0) = 3
            bill(0, 4, 1, 0, 0) = 4
            bill(0, 2, 1, 0, 0) = 5
            setFor(0, 7, 0) = 0
            setFor(0, 7, 1) = 1
            setFor(0, 7, 2) = 3
            receive(0, 7, 0) = 0
            bill 3: open 0
            bill 4: open 4
            bill 5: open 2
            """);
    }

    private static void aSetIsFoundAtTheEndsOfAFullBook() {
        Run.shows("of all sets of 1 to 3 open bills (among 40)", """
            bill(5, 8, 1, 0, 0) = 0
            36 times: bill(5, 1000000, 1, 0, 0)
            bill(5, 1, 1, 0, 0) = 37
            bill(5, 2, 1, 0, 0) = 38
            bill(5, 4, 1, 0, 0) = 39
            setFor(5, 7, 0) = 37
            setFor(5, 7, 1) = 38
            setFor(5, 7, 2) = 39
            setFor(5, 4, 0) = 39
            setFor(5, 12, 0) = 0
            setFor(5, 12, 1) = 39
            setFor(5, 14, 2) = 39
            setFor(5, 3000000, 0) = 1
            setFor(5, 3000000, 1) = 2
            setFor(5, 3000000, 2) = 3
            setFor(5, 4000000, 0) = -1
            receive(5, 7, 0) = 0
            open(39) = 0
            """);
    }

    // ---- step 3

    private static void noCustomerNoOldestBill() {
        Run.shows("If it has a customer (step 3)", """
            bill(0, 10, 1, 0, 0) = 0
            receive(NONE, 7, 0) = 0
            receipt 0: customerOf -1, unapplied 7
            open(0) = 10
            assign(0, 0) = 0
            open(0) = 3
            """);
    }

    private static void theOldestBillsGoByRisingDays() {
        Run.shows("the open bills of the customer are gone through by rising days", """
            bill(1, 5, 1, 0, 0) = 0
            bill(0, 50, 1, 0, 90) = 1
            advance(1) = 1
            bill(0, 60, 1, 1000, 0) = 2
            advance(1) = 2
            bill(0, 70, 1, 0, 0) = 3
            receive(0, 111, 0) = 0
            bill 0: open 5
            bill 1: open 0, paid 50
            bill 2: open 0, paid 60, taken 0
            bill 3: open 69, paid 1, disputed 0
            """);
    }

    private static void billsOfOneDayGoByRisingNumbers() {
        Run.shows("those of one day by rising numbers", """
            bill(0, 50, 9, 0, 0) = 0
            bill(0, 60, 8, 0, 90) = 1
            bill(0, 70, 7, 0, 1) = 2
            receive(0, 111, 0) = 0
            bill 0: open 0, paid 50
            bill 1: open 0, paid 60
            bill 2: open 69, paid 1, disputed 0
            """);
    }

    private static void theOldestBillsEndWithTheLastCent() {
        Run.shows("As long as something is not applied (step 3: just used up)", """
            bill(0, 1, 1, 0, 0) = 0
            bill(0, 2, 1, 0, 0) = 1
            bill(0, 4, 1, 0, 0) = 2
            bill(0, 8, 1, 0, 0) = 3
            bill(0, 16, 1, 10000, 0) = 4
            bill(0, 32, 1, 0, 0) = 5
            receive(0, 15, 0) = 0
            bill 3: open 0, paid 8
            bill 4: open 16, due 0, taken 0
            bill 5: open 32
            bounce(0) = 4
            """);
    }

    private static void anOldBillIsPaidInPartWithACentLess() {
        Run.shows("or, if that is less than what is due, in part (step 3: a cent less, and no dispute)", """
            bill(0, 100, 1, 1000, 9) = 0
            receive(0, 89, 0) = 0
            bill 0: open 11, due 11, paid 89, taken 0, disputed 0
            receive(0, 10, 0) = 1
            bill 0: open 1, paid 99
            receive(0, 1, 0) = 2
            bill 0: open 0, paid 100, taken 0, disputed 0
            bill(1, 2, 1, 0, 0) = 1
            receive(1, 1, 0) = 3
            bill 1: open 1, paid 1, disputed 0
            """);
    }

    private static void aCentOverGoesToTheNextOldBill() {
        Run.shows("each is paid in full, or, if that is less than what is due, in part (step 3: a cent over)", """
            bill(0, 100, 1, 1000, 9) = 0
            bill(0, 20, 1, 0, 0) = 1
            receive(0, 91, 0) = 0
            bill 0: open 0, paid 90, taken 10
            bill 1: open 19, paid 1, disputed 0
            unapplied(0) = 0
            """);
    }

    private static void anOldBillIsPaidWithNothing() {
        Run.shows("(A bill of which nothing is due, as its discount is its whole amount, is paid in full with 0.) (step 3)",
            """
            bill(0, 10, 1, 10000, 0) = 0
            bill(0, 20, 1, 10000, 0) = 1
            receive(0, 1, 0) = 0
            bill 0: open 0, due 0, paid 0, taken 10
            bill 1: open 0, paid 0, taken 20
            unapplied(0) = 1
            appliedTo(0, 0) = 0
            bounce(0) = 2
            advance(1) = 1
            bill 0: open 10, due 10, taken 0
            receive(0, 1, 0) = 1
            bill 0: open 9, paid 1, taken 0
            """);
    }

    private static void nothingOfItIsLeftForABillOfNothing() {
        Run.shows("and something is not applied (step 3: step 2 used it up)", """
            bill(0, 10, 1, 10000, 0) = 0
            bill(0, 20, 1, 0, 0) = 1
            receive(0, 20, 0) = 0
            bill 0: open 10, due 0, taken 0
            bill 1: open 0
            bounce(0) = 1
            """);
    }

    private static void whatFindsNoBillStaysUnapplied() {
        Run.shows("money that finds no bill stays unapplied", """
            receive(0, 5, 0) = 0
            unapplied(0) = 5
            bill(0, 10, 1, 0, 0) = 0
            unapplied(0) = 5
            receive(0, 11, 0) = 1
            unapplied(1) = 1
            allUnapplied() = 6
            """);
    }

    private static void aReceiptGoesThroughFortyOldBills() {
        Run.shows("the open bills of the customer are gone through (all 40)", """
            40 times: bill(0, 2, 1, 0, 0) = #
            receive(0, 79, 0) = 0
            bill 0: open 0, paid 2
            bill 38: open 0, paid 2
            bill 39: open 1, paid 1, disputed 0
            bounce(0) = 40
            openOf(0) = 80
            receive(0, 81, 0) = 1
            bill 39: open 0, paid 2
            unapplied(1) = 1
            """);
    }

    private static void theLargestSumsAreApplied() {
        Run.shows("each is paid in full (the largest amounts)", """
            40 times: bill(0, 1000000, 1, 0, 0) = #
            setFor(0, 3000000, 2) = 2
            30 times: receive(0, 1000000, 0) = #
            customer 0: openOf 10000000
            sums: received 30000000, applied 30000000, allUnapplied 0
            bill 29: open 0, paid 1000000
            bill 30: open 1000000, paid 0
            """);
    }
}
