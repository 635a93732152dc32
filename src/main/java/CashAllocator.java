/** An allocator of payments to bills. All money is told in cents. */
public final class CashAllocator {

    /** None. */
    public static final int NONE = -1;

    private static final int CUSTOMERS = 8;
    private static final int MOST_BILLS = 40;
    private static final int MOST_RECEIPTS = 30;
    private static final int HIGHEST_AMOUNT = 1000000;
    private static final int HIGHEST_REFERENCE = 9999;
    private static final int NO_REFERENCE = 0;
    private static final int WHOLE_RATE = 10000;
    private static final int MOST_DISCOUNT_DAYS = 90;
    private static final int MOST_DAYS_AT_ONCE = 100;
    private static final int LARGEST_SET = 3;

    private final BillBook billBook;
    private final ReceiptBook receiptBook;
    private final ExactSet exactSet;
    private int today;

    /** No bills and receipts, on day 0. */
    public CashAllocator() {
        billBook = new BillBook();
        receiptBook = new ReceiptBook();
        exactSet = new ExactSet();
        today = 0;
    }

    // ---- what happens

    /** Makes a bill; returns its number. */
    public int bill(int customer, int amount, int reference, int rate, int days)
            throws IndexOutOfBoundsException, IllegalArgumentException, IllegalStateException {
        requireCustomer(customer);
        requireWithin(amount, 1, HIGHEST_AMOUNT);
        requireWithin(reference, 1, HIGHEST_REFERENCE);
        requireWithin(rate, 0, WHOLE_RATE);
        requireWithin(days, 0, MOST_DISCOUNT_DAYS);
        if (billBook.count >= MOST_BILLS) {
            throw new IllegalStateException("no more bills can be made");
        }
        return billBook.add(customer, amount, reference, discountOf(amount, rate), today + days);
    }

    /** A receipt comes, and the three steps are done; returns its number. */
    public int receive(int customer, int amount, int reference)
            throws IndexOutOfBoundsException, IllegalArgumentException, IllegalStateException {
        if (customer != NONE) {
            requireCustomer(customer);
        }
        requireWithin(amount, 1, HIGHEST_AMOUNT);
        requireWithin(reference, NO_REFERENCE, HIGHEST_REFERENCE);
        if (receiptBook.count >= MOST_RECEIPTS) {
            throw new IllegalStateException("no more receipts can come");
        }
        int receipt = receiptBook.add(customer, amount);
        if (reference != NO_REFERENCE) {
            payNamedBills(receipt, reference);
        }
        payOtherBills(receipt);
        return receipt;
    }

    /** Finds the customer of a receipt, and does the steps 2 and 3; returns what is not applied of it then. */
    public int assign(int receipt, int customer) throws IndexOutOfBoundsException, IllegalStateException {
        requireReceipt(receipt);
        requireCustomer(customer);
        requireNotBounced(receipt);
        if (receiptBook.customer[receipt] != NONE) {
            throw new IllegalStateException("the receipt has a customer");
        }
        receiptBook.customer[receipt] = customer;
        payOtherBills(receipt);
        return receiptBook.unapplied[receipt];
    }

    /** Does the steps 2 and 3 again; returns what is not applied of the receipt then. */
    public int apply(int receipt) throws IndexOutOfBoundsException, IllegalStateException {
        requireReceipt(receipt);
        requireNotBounced(receipt);
        if (receiptBook.customer[receipt] == NONE) {
            throw new IllegalStateException("the receipt has no customer");
        }
        payOtherBills(receipt);
        return receiptBook.unapplied[receipt];
    }

    /** Pays back what is not applied of a receipt; returns what is paid back by this. */
    public int payBack(int receipt) throws IndexOutOfBoundsException, IllegalStateException {
        requireReceipt(receipt);
        requireNotBounced(receipt);
        if (receiptBook.unapplied[receipt] == 0) {
            throw new IllegalStateException("nothing of the receipt is unapplied");
        }
        return receiptBook.payBackRest(receipt);
    }

    /** A receipt bounces; returns how many bills it had paid. */
    public int bounce(int receipt) throws IndexOutOfBoundsException, IllegalStateException {
        requireReceipt(receipt);
        requireNotBounced(receipt);
        if (receiptBook.paidBack[receipt] > 0) {
            throw new IllegalStateException("something of the receipt was paid back");
        }
        int undone = 0;
        for (int bill = 0; bill < billBook.count; bill++) {
            if (receiptBook.hasPaid(receipt, bill)) {
                billBook.undo(bill, receipt, receiptBook.paidOf(receipt, bill));
                receiptBook.dropPayment(receipt, bill);
                undone++;
            }
        }
        receiptBook.markBounced(receipt);
        return undone;
    }

    /** Settles the dispute of a bill; returns what was disputed. */
    public int settle(int bill, boolean isAccepted) throws IndexOutOfBoundsException, IllegalStateException {
        requireBill(bill);
        if (billBook.disputed[bill] == 0) {
            throw new IllegalStateException("nothing of the bill is disputed");
        }
        return billBook.endDispute(bill, isAccepted);
    }

    /** Lets days pass; returns the day then. */
    public int advance(int days) throws IllegalArgumentException {
        requireWithin(days, 1, MOST_DAYS_AT_ONCE);
        today += days;
        return today;
    }

    // ---- bills

    /** Returns the number of bills. */
    public int bills() {
        return billBook.count;
    }

    /** Returns what is open of a bill. */
    public int open(int bill) throws IndexOutOfBoundsException {
        requireBill(bill);
        return billBook.openSum(bill);
    }

    /** Returns what is due of a bill now. */
    public int due(int bill) throws IndexOutOfBoundsException {
        requireBill(bill);
        return billBook.dueOn(bill, today);
    }

    /** Returns what is paid of a bill. */
    public int paid(int bill) throws IndexOutOfBoundsException {
        requireBill(bill);
        return billBook.paid[bill];
    }

    /** Returns the discount that was taken of a bill. */
    public int taken(int bill) throws IndexOutOfBoundsException {
        requireBill(bill);
        return billBook.taken[bill];
    }

    /** Returns what is disputed of a bill. */
    public int disputed(int bill) throws IndexOutOfBoundsException {
        requireBill(bill);
        return billBook.disputed[bill];
    }

    /** Returns what is written off of a bill. */
    public int writtenOff(int bill) throws IndexOutOfBoundsException {
        requireBill(bill);
        return billBook.writtenOff[bill];
    }

    /** Returns what is open of all bills of a customer. */
    public int openOf(int customer) throws IndexOutOfBoundsException {
        requireCustomer(customer);
        int sum = 0;
        for (int bill = 0; bill < billBook.count; bill++) {
            if (billBook.customer[bill] == customer) {
                sum += billBook.openSum(bill);
            }
        }
        return sum;
    }

    /** Returns a bill of the set that step 2 would take now for a sum; NONE if it has none at this place. */
    public int setFor(int customer, int sum, int place) throws IndexOutOfBoundsException, IllegalArgumentException {
        requireCustomer(customer);
        if (place < 0 || place >= LARGEST_SET) {
            throw new IndexOutOfBoundsException("no such place in a set");
        }
        if (sum < 1) {
            throw new IllegalArgumentException("the sum is below 1");
        }
        chooseExactSet(customer, sum);
        return exactSet.chosen[place];
    }

    // ---- receipts

    /** Returns the number of receipts. */
    public int receipts() {
        return receiptBook.count;
    }

    /** Returns the customer of a receipt; NONE if it has none. */
    public int customerOf(int receipt) throws IndexOutOfBoundsException {
        requireReceipt(receipt);
        return receiptBook.customer[receipt];
    }

    /** Returns what a receipt has paid of a bill; 0 if it has bounced. */
    public int appliedTo(int receipt, int bill) throws IndexOutOfBoundsException {
        requireReceipt(receipt);
        requireBill(bill);
        return receiptBook.paidOf(receipt, bill);
    }

    /** Returns what is not applied of a receipt, and was not paid back; 0 if it has bounced. */
    public int unapplied(int receipt) throws IndexOutOfBoundsException {
        requireReceipt(receipt);
        return receiptBook.unapplied[receipt];
    }

    /** Tells whether a receipt has bounced. */
    public boolean hasBounced(int receipt) throws IndexOutOfBoundsException {
        requireReceipt(receipt);
        return receiptBook.isBounced[receipt];
    }

    // ---- sums

    /** Returns the day. */
    public int day() {
        return today;
    }

    /** Returns the amounts of all receipts, together. */
    public int received() {
        return receiptBook.totalOf(receiptBook.amount);
    }

    /** Returns what is applied of all receipts, together. */
    public int applied() {
        return receiptBook.totalOf(receiptBook.applied);
    }

    /** Returns what is unapplied of all receipts, together. */
    public int allUnapplied() {
        return receiptBook.totalOf(receiptBook.unapplied);
    }

    /** Returns what was paid back of all receipts, together. */
    public int paidBack() {
        return receiptBook.totalOf(receiptBook.paidBack);
    }

    /** Returns the amounts of all receipts that have bounced, together. */
    public int bounced() {
        return receiptBook.bouncedTotal();
    }

    // ---- the three steps

    /** Step 1. */
    private void payNamedBills(int receipt, int reference) {
        if (receiptBook.customer[receipt] == NONE) {
            receiptBook.customer[receipt] = billBook.customerNamedBy(reference);
        }
        int customer = receiptBook.customer[receipt];
        for (int bill = 0; bill < billBook.count && receiptBook.unapplied[receipt] > 0; bill++) {
            if (billBook.isOpenFor(bill, customer) && billBook.reference[bill] == reference) {
                boolean isInFull = payBill(receipt, bill);
                if (!isInFull) {
                    billBook.disputeRest(bill, receipt);
                }
            }
        }
    }

    /** The steps 2 and 3. */
    private void payOtherBills(int receipt) {
        if (receiptBook.customer[receipt] == NONE) {
            return;
        }
        if (receiptBook.unapplied[receipt] > 0) {
            payExactSet(receipt);
        }
        payOldestBills(receipt);
    }

    /** Step 2. */
    private void payExactSet(int receipt) {
        chooseExactSet(receiptBook.customer[receipt], receiptBook.unapplied[receipt]);
        for (int place = 0; place < LARGEST_SET; place++) {
            int bill = exactSet.chosen[place];
            if (bill >= 0 && bill < billBook.count) {
                payBill(receipt, bill);
            }
        }
    }

    /** Step 3. Bills are numbered as they are made and days never go back, so rising numbers are rising days. */
    private void payOldestBills(int receipt) {
        int customer = receiptBook.customer[receipt];
        for (int bill = 0; bill < billBook.count && receiptBook.unapplied[receipt] > 0; bill++) {
            if (billBook.isOpenFor(bill, customer)) {
                payBill(receipt, bill);
            }
        }
    }

    /** Pays a bill in full, or in part if the receipt has too little left; tells whether it was in full. */
    private boolean payBill(int receipt, int bill) {
        int due = billBook.dueOn(bill, today);
        int rest = receiptBook.unapplied[receipt];
        boolean isInFull = rest >= due;
        if (isInFull) {
            // Ahead of the payment, which ends that the whole amount is open.
            billBook.takeDiscount(bill, receipt, today);
        }
        int sum = isInFull ? due : rest;
        billBook.paid[bill] += sum;
        receiptBook.addPayment(receipt, bill, sum);
        return isInFull;
    }

    private void chooseExactSet(int customer, int sum) {
        exactSet.clear();
        for (int bill = 0; bill < billBook.count; bill++) {
            if (billBook.isOpenFor(bill, customer)) {
                exactSet.offer(bill, billBook.dueOn(bill, today));
            }
        }
        exactSet.choose(sum);
    }

    // ---- what a call asks of its arguments

    private static void requireCustomer(int customer) {
        if (customer < 0 || customer >= CUSTOMERS) {
            throw new IndexOutOfBoundsException("no such customer");
        }
    }

    private void requireBill(int bill) {
        if (bill < 0 || bill >= billBook.count) {
            throw new IndexOutOfBoundsException("no such bill");
        }
    }

    private void requireReceipt(int receipt) {
        if (receipt < 0 || receipt >= receiptBook.count) {
            throw new IndexOutOfBoundsException("no such receipt");
        }
    }

    private void requireNotBounced(int receipt) {
        if (receiptBook.isBounced[receipt]) {
            throw new IllegalStateException("the receipt has bounced");
        }
    }

    private static void requireWithin(int value, int lowest, int highest) {
        if (value < lowest || value > highest) {
            throw new IllegalArgumentException("an argument is out of range");
        }
    }

    private static int discountOf(int amount, int rate) {
        // The product can pass the range of int.
        return (int) ((long) amount * rate / WHOLE_RATE);
    }

    /** The bills, a column for each thing that is known of them. */
    private static final class BillBook {

        final int[] customer = new int[MOST_BILLS];
        final int[] amount = new int[MOST_BILLS];
        final int[] reference = new int[MOST_BILLS];
        final int[] discount = new int[MOST_BILLS];
        final int[] lastDiscountDay = new int[MOST_BILLS];
        final int[] paid = new int[MOST_BILLS];
        final int[] taken = new int[MOST_BILLS];
        final int[] takenBy = new int[MOST_BILLS];
        final int[] disputed = new int[MOST_BILLS];
        final int[] disputedBy = new int[MOST_BILLS];
        final int[] writtenOff = new int[MOST_BILLS];
        int count;

        /** The caller has seen that there is room for one more. */
        int add(int ofCustomer, int ofAmount, int ofReference, int ofDiscount, int untilDay) {
            int bill = count;
            customer[bill] = ofCustomer;
            amount[bill] = ofAmount;
            reference[bill] = ofReference;
            discount[bill] = ofDiscount;
            lastDiscountDay[bill] = untilDay;
            takenBy[bill] = NONE;
            disputedBy[bill] = NONE;
            count++;
            return bill;
        }

        int openSum(int bill) {
            return amount[bill] - paid[bill] - taken[bill] - disputed[bill] - writtenOff[bill];
        }

        boolean isOpenFor(int bill, int ofCustomer) {
            return customer[bill] == ofCustomer && openSum(bill) > 0;
        }

        boolean allowsDiscount(int bill, int day) {
            return openSum(bill) == amount[bill] && day <= lastDiscountDay[bill];
        }

        int dueOn(int bill, int day) {
            int open = openSum(bill);
            return allowsDiscount(bill, day) ? open - discount[bill] : open;
        }

        /** Returns the customer of the first open bill with a reference, or NONE. */
        int customerNamedBy(int ofReference) {
            for (int bill = 0; bill < count; bill++) {
                if (reference[bill] == ofReference && openSum(bill) > 0) {
                    return customer[bill];
                }
            }
            return NONE;
        }

        void takeDiscount(int bill, int receipt, int day) {
            if (allowsDiscount(bill, day)) {
                taken[bill] = discount[bill];
                takenBy[bill] = receipt;
            }
        }

        void disputeRest(int bill, int receipt) {
            disputed[bill] += openSum(bill);
            disputedBy[bill] = receipt;
        }

        /** Returns what was disputed. */
        int endDispute(int bill, boolean isWrittenOff) {
            int sum = disputed[bill];
            if (isWrittenOff) {
                writtenOff[bill] += sum;
            }
            disputed[bill] = 0;
            disputedBy[bill] = NONE;
            return sum;
        }

        /** Takes back what a receipt did to a bill, of which it had paid a sum. */
        void undo(int bill, int receipt, int sum) {
            paid[bill] -= sum;
            if (takenBy[bill] == receipt) {
                taken[bill] = 0;
                takenBy[bill] = NONE;
            }
            if (disputedBy[bill] == receipt) {
                endDispute(bill, false);
            }
        }
    }

    /** The receipts, a column for each thing that is known of them. */
    private static final class ReceiptBook {

        final int[] customer = new int[MOST_RECEIPTS];
        final int[] amount = new int[MOST_RECEIPTS];
        final int[] applied = new int[MOST_RECEIPTS];
        final int[] unapplied = new int[MOST_RECEIPTS];
        final int[] paidBack = new int[MOST_RECEIPTS];
        final boolean[] isBounced = new boolean[MOST_RECEIPTS];
        // One cell for each receipt and bill. A bill can be paid with 0, so the sum does not tell whether it was paid.
        final int[] sums = new int[MOST_RECEIPTS * MOST_BILLS];
        final boolean[] hasSum = new boolean[MOST_RECEIPTS * MOST_BILLS];
        int count;

        /** The caller has seen that there is room for one more. */
        int add(int ofCustomer, int ofAmount) {
            int receipt = count;
            customer[receipt] = ofCustomer;
            amount[receipt] = ofAmount;
            unapplied[receipt] = ofAmount;
            count++;
            return receipt;
        }

        static int cell(int receipt, int bill) {
            return receipt * MOST_BILLS + bill;
        }

        boolean hasPaid(int receipt, int bill) {
            return hasSum[cell(receipt, bill)];
        }

        int paidOf(int receipt, int bill) {
            return sums[cell(receipt, bill)];
        }

        void addPayment(int receipt, int bill, int sum) {
            sums[cell(receipt, bill)] += sum;
            hasSum[cell(receipt, bill)] = true;
            applied[receipt] += sum;
            unapplied[receipt] -= sum;
        }

        void dropPayment(int receipt, int bill) {
            applied[receipt] -= sums[cell(receipt, bill)];
            sums[cell(receipt, bill)] = 0;
            hasSum[cell(receipt, bill)] = false;
        }

        void markBounced(int receipt) {
            unapplied[receipt] = 0;
            isBounced[receipt] = true;
        }

        /** Returns what is paid back. */
        int payBackRest(int receipt) {
            int sum = unapplied[receipt];
            unapplied[receipt] = 0;
            paidBack[receipt] += sum;
            return sum;
        }

        int totalOf(int[] column) {
            int total = 0;
            for (int receipt = 0; receipt < count && receipt < column.length; receipt++) {
                total += column[receipt];
            }
            return total;
        }

        int bouncedTotal() {
            int total = 0;
            for (int receipt = 0; receipt < count; receipt++) {
                if (isBounced[receipt]) {
                    total += amount[receipt];
                }
            }
            return total;
        }
    }

    /**
     * Chooses, of the bills that are offered, 1 to 3 whose dues add up to a sum: as few as can be, and of several such
     * sets the one with the lower numbers, which is the first one found as all loops go by rising numbers. It is kept
     * and used again, so that no call makes arrays of its own.
     */
    private static final class ExactSet {

        final int[] offered = new int[MOST_BILLS];
        final int[] dues = new int[MOST_BILLS];
        final int[] chosen = new int[LARGEST_SET];
        int count;

        void clear() {
            count = 0;
            chosen[0] = NONE;
            chosen[1] = NONE;
            chosen[2] = NONE;
        }

        /** Bills are offered by rising numbers, each once. */
        void offer(int bill, int due) {
            if (count < MOST_BILLS) {
                offered[count] = bill;
                dues[count] = due;
                count++;
            }
        }

        void choose(int sum) {
            if (!chooseOne(sum) && !chooseTwo(sum)) {
                chooseThree(sum);
            }
        }

        private boolean chooseOne(int sum) {
            int only = find(sum, 0);
            if (only == NONE) {
                return false;
            }
            chosen[0] = offered[only];
            return true;
        }

        private boolean chooseTwo(int sum) {
            for (int low = 0; low < count; low++) {
                int high = find(sum - dues[low], low + 1);
                if (high != NONE) {
                    chosen[0] = offered[low];
                    chosen[1] = offered[high];
                    return true;
                }
            }
            return false;
        }

        private void chooseThree(int sum) {
            for (int low = 0; low < count; low++) {
                for (int middle = low + 1; middle < count; middle++) {
                    int high = find(sum - dues[low] - dues[middle], middle + 1);
                    if (high != NONE) {
                        chosen[0] = offered[low];
                        chosen[1] = offered[middle];
                        chosen[2] = offered[high];
                        return;
                    }
                }
            }
        }

        /** Returns where, from a position on, the first bill with this due was offered, or NONE. */
        private int find(int due, int from) {
            for (int position = from; position < count; position++) {
                if (dues[position] == due) {
                    return position;
                }
            }
            return NONE;
        }
    }
}
