import java.util.ArrayList;
import java.util.List;
import java.util.function.Supplier;

/** What the tests of the edges share: the sentence that is tested, refused calls, and all that calls tell of an object. */
final class Edge {
    static final int MIN = Integer.MIN_VALUE;
    static final int MAX = Integer.MAX_VALUE;

    /** Sections and words of the document that have a test; DocumentEdges looks for what has none. */
    static final List<String[]> QUOTED = new ArrayList<>();

    private static String now = "";

    private Edge() {
    }

    /** A call on an object. */
    interface Asked {
        long of(PaymentRuns runs);
    }

    /** A call on an object, with one number that is tried at its bounds. */
    interface AskedWith {
        long of(PaymentRuns runs, int number);
    }

    /** From here on answers are asked for these words of a section (a term or a promise). */
    static void of(String section, String words) {
        QUOTED.add(new String[] {section, words});
        now = "[" + section + ": " + words + "] ";
    }

    static void same(String call, long got, long due) {
        Check.same(now + call, got, due);
    }

    static void isTrue(String what, boolean holds) {
        Check.isTrue(now + what, holds);
    }

    /** The call answers so and leaves all as it was: as it is on a twin that was not asked. */
    static void refused(String call, Supplier<PaymentRuns> made, Asked asked, long due) {
        PaymentRuns runs = made.get();
        same(call, asked.of(runs), due);
        sameState(call + " leaves all as it was", runs, made.get());
    }

    static void sameState(String what, PaymentRuns runs, PaymentRuns twin) {
        String got = whole(runs);
        String due = whole(twin);
        isTrue(what + ": " + got + " as " + due, got.equals(due));
    }

    /** Numbers 0 to n less 1 are answered, those one step outside and far off are refused. */
    static void range(String call, Supplier<PaymentRuns> made, int n, AskedWith asked, long due) {
        for (int none : new int[] {MIN, -1, n, n + 1, MAX}) {
            refused(call + " of " + none, made, runs -> asked.of(runs, none), due);
        }
        for (int i : new int[] {0, 1, n - 2, n - 1}) {
            if (i >= 0 && i < n) {
                isTrue(call + " of " + i + " is answered", asked.of(made.get(), i) != due);
            }
        }
    }

    /** All that is told by calls that only ask. */
    static String told(PaymentRuns runs) {
        StringBuilder all = new StringBuilder();
        for (int what = 0; what <= 12; what++) {
            all.append(runs.count(what)).append(' ');
        }
        for (int s = 0; s < 4; s++) {
            all.append(runs.rank(s)).append(' ').append(runs.sums(s)).append(' ').append(runs.laws(s)).append(' ');
        }
        for (int b = 0; b < 5; b++) {
            for (int what = 0; what < 7; what++) {
                all.append(runs.bill(b, what)).append(' ');
            }
            all.append(runs.net(b)).append(' ').append(runs.day(b)).append(' ');
        }
        for (int d = 0; d < 7; d++) {
            all.append(runs.comes(d)).append(' ').append(runs.cash(d)).append(' ');
        }
        return all.append(runs.closed()).append(' ').append(runs.fault(0)).append(' ').append(runs.fault(1)).toString();
    }

    /** All that is told, with what images and the tape hold; the object is of no more use. */
    private static String whole(PaymentRuns runs) {
        StringBuilder all = new StringBuilder(told(runs));
        for (int slot = 0; slot < 4; slot++) {
            all.append(" row ").append(length(runs, slot));
        }
        for (int k = 0; k < 3; k++) {
            all.append(" image ").append(runs.back(k)).append(' ').append(runs.total()).append(' ').append(runs.closed());
            all.append(' ').append(runs.undo()).append(' ').append(runs.count(10)).append(' ').append(runs.rank(0));
        }
        return all.append(" tape ").append(runs.desk()).append(' ').append(told(runs)).toString();
    }

    /** How many numbers a slot's row has, or why it has none: of so many it can be put to itself. */
    static int length(PaymentRuns runs, int slot) {
        int answer = runs.paste(slot, 0, slot, 0, 0);
        if (answer != 0) {
            return answer;
        }
        int least = 0;
        int most = 64;
        while (most - least > 1) {
            int middle = (least + most) / 2;
            if (runs.paste(slot, 0, slot, 0, middle) == 0) {
                least = middle;
            } else {
                most = middle;
            }
        }
        return least;
    }

    // Texts of lines.

    static String desk(int days, int law, int odds, int cash, int floor, int fee) {
        return "desk days " + days + " law " + law + " odds " + odds + " cash " + cash + " floor " + floor + " fee " + fee + ";";
    }

    static String supplier(int rank) {
        return "supplier rank " + rank + ";";
    }

    static String bill(int of, int sum, int off, int by, int due, int late) {
        return "bill of " + of + " sum " + sum + " off " + off + " by " + by + " due " + due + " late " + late + ";";
    }

    static String held(int of, int sum, int off, int by, int due, int late, int held) {
        return bill(of, sum, off, by, due, late).replace(";", " held " + held + ";");
    }

    static String cash(int sum, int on) {
        return "cash " + sum + " on " + on + ";";
    }

    /** A desk whose bills are paid on day 0 at their sums: nothing is off, cash is plenty. */
    static String bills(int suppliers, int bills) {
        return desk(7, 0, 5, 9999, 0, 0) + supplier(1).repeat(suppliers) + bill(0, 10, 0, 0, 6, 1).repeat(bills);
    }

    /** An object with a desk, acts, an image, rows and bytes on its tape: a refused call has much to spoil. */
    static PaymentRuns busy(String text) {
        PaymentRuns runs = Check.desk(text);
        runs.row(0, 1, 2);
        runs.write(0, 0, 1);
        runs.row(2, 3, 4);
        runs.image(1);
        Check.tape(runs, Desks.EMPTY);
        return runs;
    }
}
