import java.lang.reflect.InvocationTargetException;
import java.lang.reflect.Method;
import java.util.ArrayList;
import java.util.HashMap;
import java.util.List;
import java.util.Map;
import java.util.Set;
import java.util.regex.Matcher;
import java.util.regex.Pattern;

/**
 * A run of calls on a new object, told as text, a row a line:
 *
 * <pre>
 * bill(0, 100, 7, 200, 10) = 0                             the answer that is due
 * bill(8, 100, 7, 0, 0) throws IndexOutOfBoundsException   the exception that is due
 * advance(3)                                               any answer, but no exception
 * bill 0: open 100, due 98                                 open(0) = 100, and due(0) = 98
 * sums: received 5, applied 0                              received() = 5, and applied() = 0
 * 40 times: bill(0, 5, 1, 0, 0) = #                        # is 0, then 1, then 2, and so on
 * </pre>
 *
 * Beside the answers it looks at this: a call that throws, and a call that only asks, changes nothing.
 */
final class Run {

    private static final int MOST_CALLS = 512;
    private static final String ANY = "any answer";
    private static final String THROWS = "throws ";
    private static final Pattern TIMES = Pattern.compile("(\\d+) times: (.*)");
    private static final Pattern PARTS = Pattern.compile("(sums|(?:bill|receipt|customer) \\d+): (.*)");
    private static final Pattern CALL = Pattern.compile("(\\w+)\\(([^)]*)\\)(?: (?:= (\\S+)|(throws \\w+)))?");
    private static final Set<String> CHANGING =
        Set.of("bill", "receive", "assign", "apply", "payBack", "bounce", "settle", "advance");
    private static final Map<String, Method> METHODS = methods();

    /** What may come after a call, so that a change shows that no question tells of yet; # is a number in use. */
    private static final String[] FUTURES = {
        "", "bounce(#)", "apply(#)", "payBack(#)", "assign(#, 0)", "settle(#, false)", "settle(#, true)",
        "advance(1)", "advance(90)", "bill(0, 5, 1, 0, 0)", "receive(0, 1000000, 0)", "receive(NONE, 1000000, 1)",
    };

    private record Row(String call, Method method, Object[] arguments, String want) {

        String answerOf(CashAllocator x) {
            try {
                return String.valueOf(method.invoke(x, arguments));
            } catch (InvocationTargetException thrown) {
                return THROWS + thrown.getCause().getClass().getSimpleName();
            } catch (IllegalAccessException hidden) {
                throw new IllegalStateException(hidden);
            }
        }

        boolean isMet(String answer) {
            return want.equals(ANY) ? !answer.startsWith(THROWS) : want.equals(answer);
        }

        boolean isToChangeNothing() {
            return want.startsWith(THROWS) || !CHANGING.contains(method.getName());
        }
    }

    private final String sentence;
    private final List<Row> rows = new ArrayList<>();

    private Run(String sentence) {
        this.sentence = sentence;
    }

    /** The run shows that a sentence of the document holds. */
    static void shows(String sentence, String text) {
        Run run = new Run(sentence);
        text.lines().map(String::strip).filter(line -> !line.isEmpty()).forEach(run::read);
        if (run.rows.size() > MOST_CALLS) {
            throw new IllegalArgumentException(sentence + ": a run has at most 512 calls");
        }
        run.answersAreDue();
        run.nothingElseChanges();
    }

    // ---- reading

    private static Map<String, Method> methods() {
        Map<String, Method> found = new HashMap<>();
        for (Method method : CashAllocator.class.getMethods()) {
            if (method.getDeclaringClass() == CashAllocator.class) {
                found.put(method.getName(), method);
            }
        }
        return found;
    }

    private void read(String line) {
        Matcher times = TIMES.matcher(line);
        Matcher parts = PARTS.matcher(line);
        if (times.matches()) {
            for (int number = 0; number < Integer.parseInt(times.group(1)); number++) {
                read(times.group(2).replace("#", String.valueOf(number)));
            }
        } else if (parts.matches()) {
            String of = parts.group(1).replaceAll("\\D", "");
            for (String part : parts.group(2).split(", ")) {
                String[] words = part.split(" ");
                read(words[0] + "(" + of + ") = " + words[1]);
            }
        } else {
            rows.add(row(line));
        }
    }

    private static Row row(String line) {
        Matcher call = CALL.matcher(line);
        if (!call.matches() || !METHODS.containsKey(call.group(1))) {
            throw new IllegalArgumentException("no row of a run: " + line);
        }
        String want = call.group(3) != null ? call.group(3) : call.group(4);
        return new Row(line, METHODS.get(call.group(1)), arguments(call.group(2)), want == null ? ANY : want);
    }

    private static Object[] arguments(String text) {
        List<Object> arguments = new ArrayList<>();
        for (String word : text.isEmpty() ? new String[0] : text.split(", ")) {
            boolean isTruth = word.equals("true") || word.equals("false");
            arguments.add(isTruth ? (Object) Boolean.valueOf(word) : Integer.valueOf(word.replace("NONE", "-1")));
        }
        return arguments.toArray();
    }

    // ---- what is looked at

    private void answersAreDue() {
        CashAllocator x = new CashAllocator();
        for (int number = 0; number < rows.size(); number++) {
            Row row = rows.get(number);
            String answer = row.answerOf(x);
            if (!row.isMet(answer)) {
                Check.report(sentence + " | call " + (number + 1) + ": " + row.call() + " | answered " + answer);
            }
        }
    }

    private void nothingElseChanges() {
        for (int number = 0; number < rows.size(); number++) {
            boolean isRepeated = number > 0 && rows.get(number - 1).call().equals(rows.get(number).call());
            if (rows.get(number).isToChangeNothing() && !isRepeated) {
                changesNothing(number);
            }
        }
    }

    private void changesNothing(int number) {
        if (number + 2 > MOST_CALLS) {
            return;
        }
        CashAllocator x = after(rows.subList(0, number));
        int bills = x.bills();
        int receipts = x.receipts();
        int inUse = Math.max(bills, receipts);
        List<Row> questions = questions(bills, receipts);
        for (String future : FUTURES) {
            List<Row> without = new ArrayList<>(rows.subList(0, number));
            List<Row> with = new ArrayList<>(rows.subList(0, number + 1));
            List<Row> after = futureRows(future, inUse);
            without.addAll(after);
            with.addAll(after);
            if (with.size() < MOST_CALLS && !answers(with, questions).equals(answers(without, questions))) {
                Check.report(sentence + " | call " + (number + 1) + ": " + rows.get(number).call()
                    + " | changed something, as is seen after '" + future + "'");
            }
        }
    }

    private static CashAllocator after(List<Row> calls) {
        CashAllocator x = new CashAllocator();
        for (Row row : calls) {
            row.answerOf(x);
        }
        return x;
    }

    private static List<Row> futureRows(String future, int inUse) {
        List<Row> found = new ArrayList<>();
        int times = future.isEmpty() ? 0 : future.contains("#") ? inUse : 1;
        for (int number = 0; number < times; number++) {
            found.add(row(future.replace("#", String.valueOf(number))));
        }
        return found;
    }

    /** All questions but setFor, of one number more than are in use: so a bill or a receipt that was made shows. */
    private static List<Row> questions(int bills, int receipts) {
        List<Row> found = new ArrayList<>();
        for (String call : "day() bills() receipts() received() applied() allUnapplied() paidBack() bounced()".split(" ")) {
            found.add(row(call));
        }
        for (int customer = 0; customer < 8; customer++) {
            found.add(row("openOf(" + customer + ")"));
        }
        for (int bill = 0; bill <= bills; bill++) {
            for (String name : new String[] {"open", "due", "paid", "taken", "disputed", "writtenOff"}) {
                found.add(row(name + "(" + bill + ")"));
            }
        }
        for (int receipt = 0; receipt <= receipts; receipt++) {
            for (String name : new String[] {"customerOf", "unapplied", "hasBounced"}) {
                found.add(row(name + "(" + receipt + ")"));
            }
            for (int bill = 0; bill <= bills; bill++) {
                found.add(row("appliedTo(" + receipt + ", " + bill + ")"));
            }
        }
        return found;
    }

    /** An object answers 512 calls, so that many questions are put to several objects that had the same calls. */
    private static List<String> answers(List<Row> calls, List<Row> questions) {
        List<String> found = new ArrayList<>();
        int room = MOST_CALLS - calls.size();
        for (int first = 0; first < questions.size(); first += room) {
            CashAllocator x = after(calls);
            for (Row question : questions.subList(first, Math.min(first + room, questions.size()))) {
                found.add(question.answerOf(x));
            }
        }
        return found;
    }
}
