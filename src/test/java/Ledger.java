import java.util.ArrayList;
import java.util.Comparator;
import java.util.HashMap;
import java.util.List;
import java.util.Map;

/**
 * The document told once more, in another way: every sum is added up from a list of payments, and sets are chosen by
 * comparing all of them. It takes no wrong arguments; what it refuses it answers with a REFUSED.
 */
final class Ledger {

    static final int REFUSED = -1000;

    private record Bill(int customer, int amount, int reference, int rate, int lastDay, int madeOn) {
    }

    private record Payment(int receipt, int bill, int sum, int discount) {
    }

    private record Dispute(int sum, int receipt) {
    }

    private final List<Bill> bills = new ArrayList<>();
    private final List<Integer> amounts = new ArrayList<>();
    private final List<Payment> payments = new ArrayList<>();
    private final Map<Integer, Integer> customers = new HashMap<>();
    private final Map<Integer, Dispute> disputes = new HashMap<>();
    private final Map<Integer, Integer> writtenOff = new HashMap<>();
    private final Map<Integer, Integer> backs = new HashMap<>();
    private final Map<Integer, Boolean> bouncedOnes = new HashMap<>();
    private int day = 0;

    // ---- what happens

    int bill(int customer, int amount, int reference, int rate, int days) {
        if (bills.size() == 40) {
            return REFUSED;
        }
        bills.add(new Bill(customer, amount, reference, rate, day + days, day));
        return bills.size() - 1;
    }

    int receive(int customer, int amount, int reference) {
        if (amounts.size() == 30) {
            return REFUSED;
        }
        int receipt = amounts.size();
        amounts.add(amount);
        if (customer >= 0) {
            customers.put(receipt, customer);
        }
        if (reference > 0) {
            stepOne(receipt, reference);
        }
        stepsTwoAndThree(receipt);
        return receipt;
    }

    int assign(int receipt, int customer) {
        if (customers.containsKey(receipt) || hasBounced(receipt)) {
            return REFUSED;
        }
        customers.put(receipt, customer);
        stepsTwoAndThree(receipt);
        return unapplied(receipt);
    }

    int apply(int receipt) {
        if (!customers.containsKey(receipt) || hasBounced(receipt)) {
            return REFUSED;
        }
        stepsTwoAndThree(receipt);
        return unapplied(receipt);
    }

    int payBack(int receipt) {
        int rest = unapplied(receipt);
        if (hasBounced(receipt) || rest == 0) {
            return REFUSED;
        }
        backs.put(receipt, rest);
        return rest;
    }

    int bounce(int receipt) {
        if (hasBounced(receipt) || backs.containsKey(receipt)) {
            return REFUSED;
        }
        long paidBills = payments.stream().filter(p -> p.receipt() == receipt).map(Payment::bill).distinct().count();
        payments.removeIf(p -> p.receipt() == receipt);
        disputes.values().removeIf(d -> d.receipt() == receipt);
        bouncedOnes.put(receipt, true);
        return (int) paidBills;
    }

    int settle(int bill, boolean isAccepted) {
        Dispute dispute = disputes.remove(bill);
        if (dispute == null) {
            return REFUSED;
        }
        if (isAccepted) {
            writtenOff.merge(bill, dispute.sum(), Integer::sum);
        }
        return dispute.sum();
    }

    int advance(int days) {
        day += days;
        return day;
    }

    // ---- the three steps

    private void stepOne(int receipt, int reference) {
        for (int bill = 0; bill < bills.size(); bill++) {
            boolean isNamed = bills.get(bill).reference() == reference && open(bill) > 0;
            if (isNamed) {
                customers.putIfAbsent(receipt, bills.get(bill).customer());
            }
            if (isNamed && customers.get(receipt) == bills.get(bill).customer() && unapplied(receipt) > 0) {
                pay(receipt, bill);
                int rest = open(bill);
                if (rest > 0) {
                    disputes.merge(bill, new Dispute(rest, receipt),
                        (old, added) -> new Dispute(old.sum() + added.sum(), receipt));
                }
            }
        }
    }

    private void stepsTwoAndThree(int receipt) {
        if (!customers.containsKey(receipt) || unapplied(receipt) == 0) {
            return;
        }
        List<Integer> set = setOf(customers.get(receipt), unapplied(receipt));
        for (int bill : set) {
            pay(receipt, bill);
        }
        List<Integer> oldest = openBillsOf(customers.get(receipt));
        oldest.sort(Comparator.comparing((Integer bill) -> bills.get(bill).madeOn()).thenComparing(bill -> bill));
        for (int bill : oldest) {
            if (unapplied(receipt) > 0) {
                pay(receipt, bill);
            }
        }
    }

    private void pay(int receipt, int bill) {
        int due = due(bill);
        boolean isInFull = due <= unapplied(receipt);
        int discount = isInFull ? open(bill) - due : 0;
        payments.add(new Payment(receipt, bill, isInFull ? due : unapplied(receipt), discount));
    }

    private List<Integer> openBillsOf(int customer) {
        List<Integer> found = new ArrayList<>();
        for (int bill = 0; bill < bills.size(); bill++) {
            if (bills.get(bill).customer() == customer && open(bill) > 0) {
                found.add(bill);
            }
        }
        return found;
    }

    /** All sets are made, and the first in the document's order is taken. */
    List<Integer> setOf(int customer, int sum) {
        List<Integer> candidates = openBillsOf(customer);
        Map<Integer, Integer> dues = new HashMap<>();
        candidates.forEach(bill -> dues.put(bill, due(bill)));
        List<List<Integer>> sets = new ArrayList<>();
        for (int a : candidates) {
            addIfExact(sets, dues, sum, List.of(a));
            for (int b : candidates) {
                for (int c = -1; b > a && c < bills.size(); c++) {
                    if (c == -1) {
                        addIfExact(sets, dues, sum, List.of(a, b));
                    } else if (c > b && dues.containsKey(c)) {
                        addIfExact(sets, dues, sum, List.of(a, b, c));
                    }
                }
            }
        }
        Comparator<List<Integer>> order = Comparator.comparing(List::size);
        for (int place = 0; place < 3; place++) {
            int at = place;
            order = order.thenComparing(set -> at < set.size() ? set.get(at) : 0);
        }
        return sets.stream().min(order).orElse(List.of());
    }

    private static void addIfExact(List<List<Integer>> sets, Map<Integer, Integer> dues, int sum, List<Integer> set) {
        if (set.stream().mapToInt(dues::get).sum() == sum) {
            sets.add(set);
        }
    }

    // ---- bills

    int bills() {
        return bills.size();
    }

    int open(int bill) {
        return bills.get(bill).amount() - paid(bill) - taken(bill) - disputed(bill) - writtenOff(bill);
    }

    int due(int bill) {
        Bill told = bills.get(bill);
        int open = open(bill);
        if (open < told.amount() || day > told.lastDay()) {
            return open;
        }
        return open - (int) Math.floor(told.amount() * (told.rate() / 10000.0) + 1e-9);
    }

    int paid(int bill) {
        return payments.stream().filter(p -> p.bill() == bill).mapToInt(Payment::sum).sum();
    }

    int taken(int bill) {
        return payments.stream().filter(p -> p.bill() == bill).mapToInt(Payment::discount).sum();
    }

    int disputed(int bill) {
        return disputes.containsKey(bill) ? disputes.get(bill).sum() : 0;
    }

    int writtenOff(int bill) {
        return writtenOff.getOrDefault(bill, 0);
    }

    int openOf(int customer) {
        return openBillsOf(customer).stream().mapToInt(this::open).sum();
    }

    int setFor(int customer, int sum, int place) {
        List<Integer> set = setOf(customer, sum);
        return place < set.size() ? set.get(place) : -1;
    }

    // ---- receipts

    int receipts() {
        return amounts.size();
    }

    int customerOf(int receipt) {
        return customers.getOrDefault(receipt, -1);
    }

    int appliedTo(int receipt, int bill) {
        return payments.stream().filter(p -> p.receipt() == receipt && p.bill() == bill).mapToInt(Payment::sum).sum();
    }

    int unapplied(int receipt) {
        int paid = payments.stream().filter(p -> p.receipt() == receipt).mapToInt(Payment::sum).sum();
        return hasBounced(receipt) ? 0 : amounts.get(receipt) - paid - backs.getOrDefault(receipt, 0);
    }

    boolean hasBounced(int receipt) {
        return bouncedOnes.containsKey(receipt);
    }

    // ---- sums

    int day() {
        return day;
    }

    int received() {
        return amounts.stream().mapToInt(Integer::intValue).sum();
    }

    int applied() {
        return payments.stream().mapToInt(Payment::sum).sum();
    }

    int allUnapplied() {
        int sum = 0;
        for (int receipt = 0; receipt < amounts.size(); receipt++) {
            sum += unapplied(receipt);
        }
        return sum;
    }

    int paidBack() {
        return backs.values().stream().mapToInt(Integer::intValue).sum();
    }

    int bounced() {
        return bouncedOnes.keySet().stream().mapToInt(amounts::get).sum();
    }
}
