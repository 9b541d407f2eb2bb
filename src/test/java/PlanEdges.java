import java.util.function.Supplier;

/** Term V and promises 32 to 41: each sentence at its bounds. */
final class PlanEdges {
    /** One bill of 100: 80 on days 0 and 1, 100 on day 2, 109 not at all; CASH is just enough on day 1. */
    private static final String ONE = Edge.desk(3, 0, 0, 50, 5, 3) + Edge.supplier(0) + Edge.bill(0, 100, 20, 1, 2, 9)
            + Edge.cash(38, 1) + Edge.cash(50, 2);

    private PlanEdges() {
    }

    static void all() {
        plans();
        lawful();
        refusedPlans("32", "lawful", PaymentRuns::lawful, "-2: there is no such SLOT, no DESK, numbers are none such (asked last);",
                "-6: it has nothing.");
        sums();
        refusedPlans("33", "sums", PaymentRuns::sums, "-2, -6 likewise.", "-2, -6 likewise.");
        falls();
        refusedPlans("34", "falls", PaymentRuns::falls, "-2, -6 likewise.", "-2, -6 likewise.");
        best();
        choice();
        wasteAndBatch();
        when();
        with();
        may();
    }

    private static PaymentRuns plan(String text, long... days) {
        PaymentRuns runs = Check.desk(text);
        Check.row(runs, 0, days);
        return runs;
    }

    private static void plans() {
        Edge.of("V", "A plan tells of each BILL a day (0 to days less 1), or -1: not at all.");
        for (int days = 1; days <= 7; days++) {
            String text = Edge.bills(1, 2).replace("days 7", "days " + days);
            for (int d = -3; d <= 8; d++) {
                boolean isTold = d >= -1 && d < days;
                Edge.same("lawful, days " + days + ", of 0, " + d, plan(text, 0, d).lawful(0), isTold ? 1 : -2);
                Edge.same("lawful, days " + days + ", of " + d + ", 0", plan(text, d, 0).lawful(0), isTold ? 1 : -2);
            }
        }
        Edge.same("-1 costs as not at all", plan(ONE, -1).sums(0), 109);
        Edge.of("V", "It is LAWFUL, if none is paid on a CLOSED day,");
        PaymentRuns closed = plan(Edge.bills(1, 2), 3, 5);
        for (int d = 0; d < 7; d++) {
            closed.fails(d);
            Edge.same("lawful, " + d + " CLOSED", closed.lawful(0), d == 3 || d == 5 ? 0 : 1);
            closed.undo();
        }
        Edge.of("V", "and CASH is not below the floor behind any day from the first on which a BILL is paid to the last");
        for (int floor = 4; floor <= 6; floor++) {
            String text = ONE.replace("floor 5", "floor " + floor);
            Edge.same("on day 1, floor " + floor, plan(text, 1).lawful(0), floor <= 5 ? 1 : 0);
        }
        Edge.same("on day 0", plan(ONE, 0).lawful(0), 0);
        Edge.same("on day 2", plan(ONE, 2).lawful(0), 1);
        // CASH 9 behind day 0, 10 with BILL 0 on day 1; BILL 1 has to wait for what comes on day 3.
        String two = Edge.desk(4, 0, 0, 9, 10, 0) + Edge.supplier(0) + Edge.bill(0, 6, 0, 0, 6, 0) + Edge.bill(0, 1, 0, 0, 6, 0)
                + Edge.cash(7, 1) + Edge.cash(1, 3);
        Edge.same("below it ahead of the first", plan(two, 1, 3).lawful(0), 1);
        Edge.same("below it behind the second", plan(two, 1, 2).lawful(0), 0);
        Edge.same("below it behind the first", plan(two, 1, 0).lawful(0), 0);
        Edge.same("one alone", plan(two, -1, 2).lawful(0), 1);
        Edge.of("V", "(a plan that pays none is LAWFUL).");
        PaymentRuns none = plan(two.replace("floor 10", "floor 5000"), -1, -1);
        Edge.same("below the floor on all days", none.lawful(0), 1);
        for (int d = 0; d < 4; d++) {
            none.fails(d);
        }
        Edge.same("all days CLOSED", none.lawful(0), 1);
        Edge.same("without a BILL", plan(Desks.EMPTY).lawful(0), 1);
    }

    private static void lawful() {
        Edge.of("32", "1, if a SLOT's row (of each BILL a day, -1: it is not paid) is LAWFUL (V), else 0.");
        for (int slot = 0; slot < 4; slot++) {
            for (int width = 0; width < 4; width++) {
                PaymentRuns runs = Check.desk(ONE);
                runs.row(slot, width, 1);
                Edge.same("noughts in " + slot + ", " + width, runs.lawful(slot), 0);
                runs.write(slot, 0, 1);
                Edge.same("1 in " + slot + ", " + width, runs.lawful(slot), 1);
                runs.write(slot, 0, -1);
                Edge.same("-1 in " + slot + ", " + width, runs.lawful(slot), 1);
            }
        }
        Edge.same("five", plan(Edge.bills(1, 5), 0, 6, -1, 3, 0).lawful(0), 1);
    }

    private static Supplier<PaymentRuns> busy(String text, long... days) {
        return () -> {
            PaymentRuns runs = Edge.busy(text);
            Check.row(runs, 3, days);
            return runs;
        };
    }

    private static void refusedPlans(String promise, String call, Edge.AskedWith asked, String none, String nothing) {
        Edge.of(promise, none);
        for (int slot : new int[] {Edge.MIN, -1, 4, 5, Edge.MAX}) {
            Edge.refused(call + "(" + slot + ")", busy(ONE, 0), runs -> asked.of(runs, slot), -2);
        }
        Edge.refused(call + " without a DESK", () -> {
            PaymentRuns runs = new PaymentRuns();
            Check.row(runs, 3, 0);
            return runs;
        }, runs -> asked.of(runs, 3), -2);
        Edge.refused(call + " without a DESK, of no numbers", () -> {
            PaymentRuns runs = new PaymentRuns();
            Check.row(runs, 3);
            return runs;
        }, runs -> asked.of(runs, 3), -2);
        long[][] rows = {{-2}, {3}, {4}, {Long.MIN_VALUE}, {Long.MAX_VALUE}, {1L << 32}, {(1L << 32) + 1}, {0, 0}, {}};
        for (long[] row : rows) {
            Edge.refused(call + " of " + java.util.Arrays.toString(row), busy(ONE, row), runs -> asked.of(runs, 3), -2);
        }
        for (long[] row : new long[][] {{-1}, {0}, {2}}) {
            Edge.isTrue(call + " of " + row[0], asked.of(busy(ONE, row).get(), 3) != -2);
        }
        for (int n = 0; n <= 5; n++) {
            for (int m = 0; m <= 6; m++) {
                long answer = asked.of(busy(Edge.bills(1, n), new long[m]).get(), 3);
                Edge.isTrue(call + " of " + m + " numbers and " + n + " BILLS: " + answer, (answer != -2) == (n == m));
            }
        }
        PaymentRuns shorter = busy(ONE, new long[60]).get();
        for (int i = 0; i < 60; i++) {
            shorter.write(3, i, 99);
        }
        shorter.row(3, 3, 1);
        Edge.isTrue(call + " of a row in place of a longer one", asked.of(shorter, 3) != -2);
        Edge.refused(call + " of 60 numbers", busy(Edge.bills(1, 5), new long[60]), runs -> asked.of(runs, 3), -2);
        Edge.of(promise, nothing);
        Edge.refused(call + " of nothing", () -> Edge.busy(ONE), runs -> asked.of(runs, 3), -6);
        Edge.refused(call + " of nothing, without a BILL", () -> Edge.busy(Desks.EMPTY), runs -> asked.of(runs, 1), -6);
        Edge.refused(call + " of nothing, without a DESK", PaymentRuns::new, runs -> asked.of(runs, 1), -2);
    }

    private static void sums() {
        Edge.of("33", "Its TOTAL (LAWFUL or not).");
        int[] due = {83, 83, 103};
        for (int d = 0; d < 3; d++) {
            Edge.same("sums of " + d, plan(ONE, d).sums(0), due[d]);
        }
        Edge.same("sums of -1", plan(ONE, -1).sums(0), 109);
        PaymentRuns closed = plan(ONE, 1);
        closed.fails(1);
        Edge.same("sums, CLOSED", closed.sums(0), 83);
        Edge.same("lawful, CLOSED", closed.lawful(0), 0);
        Edge.same("five on one day, one FEE", plan(Edge.bills(1, 5).replace("fee 0", "fee 7"), 4, 4, 4, 4, 4).sums(0), 57);
        Edge.same("five on five days", plan(Edge.bills(1, 5).replace("fee 0", "fee 7"), 0, 1, 2, 3, 4).sums(0), 85);
        Edge.same("without a BILL", plan(Desks.EMPTY).sums(0), 0);
    }

    private static void falls() {
        Edge.of("34", "The first day behind which its CASH is below the floor.");
        Edge.same("on day 0", plan(ONE, 0).falls(0), 0);
        Edge.same("on day 1, a floor of 6", plan(ONE.replace("floor 5", "floor 6"), 1).falls(0), 1);
        for (int came : new int[] {19, 20, 21}) {
            PaymentRuns runs = plan(ONE.replace("cash 50 on 2", "cash " + came + " on 2").replace("38", "37"), 2);
            Edge.same("on day 2, " + came + " come", runs.falls(0), came < 21 ? 2 : -1);
        }
        // Below the floor ahead of the first paid, too, and by a plan that pays none.
        String low = Edge.desk(2, 0, 0, 4, 5, 0) + Edge.supplier(0) + Edge.bill(0, 1, 0, 0, 6, 0) + Edge.cash(9, 1);
        Edge.same("ahead of the first", plan(low, 1).falls(0), 0);
        Edge.same("none is paid", plan(low, -1).falls(0), 0);
        Edge.of("34", "NONE: on none;");
        Edge.same("on day 1", plan(ONE, 1).falls(0), -1);
        Edge.same("none is paid", plan(ONE, -1).falls(0), -1);
        Edge.same("at the floor", plan(low.replace("cash 4 floor", "cash 5 floor"), -1).falls(0), -1);
    }

    private static void withoutDesk(String call, Edge.Asked asked) {
        Edge.refused(call + " of a new one", PaymentRuns::new, asked, -2);
        Edge.same(call + " of a desk without LINES", asked.of(Check.desk("")), -2);
        Edge.isTrue(call + " of one LINE is answered", asked.of(Check.desk(Desks.EMPTY)) != -2);
    }

    private static void ofBills(String call, Edge.AskedWith asked) {
        for (int n = 0; n <= 5; n++) {
            int bills = n;
            Edge.range(call + ", of " + n, () -> Edge.busy(Edge.bills(1, bills)), n, asked, -2);
        }
        Edge.refused(call + " without a DESK", PaymentRuns::new, runs -> asked.of(runs, 0), -2);
    }

    private static void best() {
        Edge.of("35", "BEST (V): the least TOTAL of LAWFUL plans.");
        Edge.same("on day 1", Check.desk(ONE).best(), 83);
        Edge.same("on day 2, a floor of 6", Check.desk(ONE.replace("floor 5", "floor 6")).best(), 103);
        Edge.same("not at all", Check.desk(ONE.replace("floor 5", "floor 5000")).best(), 109);
        Edge.same("without a BILL", Check.desk(Desks.EMPTY).best(), 0);
        // Paid on the one day it costs 10 and a fee, not at all 10 and late.
        for (int fee : new int[] {4, 5, 6}) {
            PaymentRuns runs = Check.desk(Edge.desk(1, 0, 0, 99, 0, fee) + Edge.supplier(0) + Edge.bill(0, 10, 0, 0, 0, 5));
            Edge.same("best(), fee " + fee, runs.best(), 10 + Math.min(5, fee));
        }
        PaymentRuns most = Check.desk(Edge.desk(7, 0, 0, 0, 5000, 200) + Edge.supplier(0)
                + Edge.bill(0, 3000, 0, 0, 0, 99).repeat(5));
        Edge.same("the greatest", most.best(), 5 * (3000 + 7 * 99));
        Edge.of("35", "-2: there is no DESK.");
        withoutDesk("best()", PaymentRuns::best);
    }

    private static void choice() {
        Edge.of("36", "The day of a BILL in it (of several plans that whose days, from BILL 0 on, are the least first,"
                + " not at all behind all days).");
        Edge.same("choice(0)", Check.desk(ONE).choice(0), 1);
        Edge.same("the first of all days", Check.desk(Edge.bills(1, 5)).choice(4), 0);
        // One of two can go on day 0: that BILL 0 does costs as much as that BILL 1 does.
        String two = Edge.desk(2, 0, 0, 10, 0, 0) + Edge.supplier(0) + Edge.bill(0, 10, 0, 0, 0, 3).repeat(2) + Edge.cash(16, 1);
        Edge.same("BILL 0 first", Check.desk(two).choice(0), 0);
        Edge.same("BILL 1 behind it", Check.desk(two).choice(1), 1);
        PaymentRuns dear = Check.desk(two.replaceAll("late 3;(cash.*)", "late 4;$1"));
        Edge.same("BILL 1 is dearer late", dear.choice(0), 1);
        Edge.same("so it is first", dear.choice(1), 0);
        // By a fee of 5 not at all costs as much as a day: a day is first.
        for (int fee : new int[] {4, 5, 6}) {
            PaymentRuns runs = Check.desk(Edge.desk(1, 0, 0, 99, 0, fee) + Edge.supplier(0) + Edge.bill(0, 10, 0, 0, 0, 5));
            Edge.same("choice(0), fee " + fee, runs.choice(0), fee <= 5 ? 0 : -1);
        }
        PaymentRuns five = Check.desk(Edge.bills(1, 5));
        five.fails(0);
        for (int b = 0; b < 5; b++) {
            Edge.same("choice(" + b + "), day 0 CLOSED", five.choice(b), 1);
        }
        Edge.of("36", "NONE: not at all;");
        Edge.same("no cash", Check.desk(ONE.replace("floor 5", "floor 5000")).choice(0), -1);
        PaymentRuns last = Check.desk(Edge.bills(1, 1));
        for (int d = 0; d < 7; d++) {
            Edge.same("choice(0)", last.choice(0), d);
            last.fails(d);
        }
        Edge.same("all CLOSED", last.choice(0), -1);
        Edge.of("36", "-2: there is none such.");
        ofBills("choice", PaymentRuns::choice);
    }

    private static void wasteAndBatch() {
        Edge.of("37", "By how much TOTAL by LAW is more than BEST.");
        Edge.same("nothing", Check.desk(ONE).waste(), 0);
        for (int fee : new int[] {4, 5, 6, 200}) {
            PaymentRuns runs = Check.desk(Edge.desk(1, 0, 0, 999, 0, fee) + Edge.supplier(0) + Edge.bill(0, 10, 0, 0, 0, 5));
            Edge.same("waste(), fee " + fee, runs.waste(), Math.max(0, fee - 5));
        }
        Edge.of("37", "-2: there is no DESK.");
        withoutDesk("waste()", PaymentRuns::waste);
        Edge.of("38", "The least TOTAL of LAWFUL plans that pay on one day at most (on none, too).");
        Edge.same("on day 1", Check.desk(ONE).batch(), 83);
        Edge.same("on none", Check.desk(ONE.replace("floor 5", "floor 5000")).batch(), 109);
        Edge.same("without a BILL", Check.desk(Desks.EMPTY).batch(), 0);
        // On two days 43 and 52; on one day there is cash for one, the other is not paid: 40 and 18.
        String two = Edge.desk(2, 0, 0, 43, 0, 3) + Edge.supplier(0) + Edge.bill(0, 40, 0, 0, 0, 9).repeat(2) + Edge.cash(52, 1);
        Edge.same("best(), on two days", Check.desk(two).best(), 95);
        Edge.same("batch(), on one", Check.desk(two).batch(), 101);
        for (int cash : new int[] {82, 83, 84}) {
            PaymentRuns runs = Check.desk(two.replace("cash 43", "cash " + cash));
            Edge.same("batch(), cash " + cash, runs.batch(), cash < 83 ? 101 : 83);
        }
        PaymentRuns closed = Check.desk(two);
        closed.fails(0);
        closed.fails(1);
        Edge.same("batch(), all CLOSED", closed.batch(), 116);
        Edge.same("batch(), five in seven days", Check.desk(Edge.bills(1, 5)).batch(), 50);
        for (int set = 0; set < 32; set++) {
            Edge.same("batch(), cash for bits " + set, Check.desk(cashFor(set)).batch(), 50 + (set == 0 ? 0 : 1));
        }
        Edge.of("38", "-2 likewise.");
        withoutDesk("batch()", PaymentRuns::batch);
    }

    /** Five bills of 10, of which those of a set are late by 9, and cash on one day for as many and a fee of 1. */
    private static String cashFor(int set) {
        StringBuilder text = new StringBuilder(Edge.desk(1, 0, 0, 10 * Integer.bitCount(set) + 1, 0, 1) + Edge.supplier(0));
        for (int b = 0; b < 5; b++) {
            text.append(Edge.bill(0, 10, 0, 0, 0, (set >> b & 1) * 9));
        }
        return text.toString();
    }

    private static void when() {
        Edge.of("39", "The first day on which BILLS are paid in such a plan of that TOTAL.");
        Edge.same("day 1", Check.desk(ONE).when(), 1);
        Edge.same("the first of all days", Check.desk(Edge.bills(1, 5)).when(), 0);
        PaymentRuns last = Check.desk(Edge.bills(1, 5).replace("late 1", "late 0"));
        for (int d = 0; d < 7; d++) {
            Edge.same("when()", last.when(), d);
            last.fails(d);
        }
        for (int fee : new int[] {4, 5}) {
            PaymentRuns runs = Check.desk(Edge.desk(2, 0, 0, 99, 0, fee) + Edge.supplier(0) + Edge.bill(0, 10, 0, 0, 1, 5));
            Edge.same("when(), fee " + fee, runs.when(), 0);
        }
        Edge.of("39", "NONE: only the plan that pays none has it;");
        Edge.same("all CLOSED", last.when(), -1);
        PaymentRuns dear = Check.desk(Edge.desk(2, 0, 0, 99, 0, 6) + Edge.supplier(0) + Edge.bill(0, 10, 0, 0, 1, 5));
        Edge.same("a fee of 6 beside 5 late", dear.when(), -1);
        Edge.same("without a BILL", Check.desk(Desks.EMPTY).when(), -1);
        Edge.of("39", "-2 likewise.");
        withoutDesk("when()", PaymentRuns::when);
    }

    private static void with() {
        Edge.of("40", "The least TOTAL of LAWFUL plans in which a BILL is paid on a day.");
        Edge.same("with(0, 1)", Check.desk(ONE).with(0, 1), 83);
        Edge.same("with(0, 2)", Check.desk(ONE).with(0, 2), 103);
        String two = Edge.desk(3, 0, 0, 10, 0, 0) + Edge.supplier(0) + Edge.bill(0, 10, 0, 0, 0, 3).repeat(2) + Edge.cash(16, 1);
        int[] due = {23, 23, 26};
        for (int d = 0; d < 3; d++) {
            Edge.same("with(0, " + d + ")", Check.desk(two).with(0, d), due[d]);
            Edge.same("with(1, " + d + ")", Check.desk(two).with(1, d), due[d]);
        }
        Edge.of("40", "NONE: there is none such plan;");
        Edge.same("with(0, 0), no cash", Check.desk(ONE).with(0, 0), -1);
        for (int floor = 5; floor <= 6; floor++) {
            PaymentRuns runs = Check.desk(ONE.replace("floor 5", "floor " + floor));
            Edge.same("with(0, 1), floor " + floor, runs.with(0, 1), floor == 5 ? 83 : -1);
        }
        PaymentRuns closed = Check.desk(ONE);
        closed.fails(1);
        Edge.same("with(0, 1), CLOSED", closed.with(0, 1), -1);
        Edge.of("40", "-2: there are none such.");
        ofBills("with(#, 0)", (runs, b) -> runs.with(b, 0));
        for (int n = 1; n <= 7; n++) {
            String text = Edge.bills(1, 1).replace("days 7", "days " + n);
            Edge.range("with(0, #), days " + n, () -> Edge.busy(text), n, (runs, d) -> runs.with(0, d), -2);
        }
    }

    private static void may() {
        Edge.of("41", "Days on which a BILL is paid in LAWFUL plans whose TOTAL is BEST, as bits (bit days: not at all).");
        Edge.same("day 1", Check.desk(ONE).may(0), 2);
        Edge.same("days 1 and 2", Check.desk(ONE.replace("by 1", "by 2")).may(0), 6);
        Edge.same("all days", Check.desk(Edge.bills(1, 1).replace("due 6", "due 5")).may(0), 63);
        Edge.same("all days, not at all, too", Check.desk(Edge.bills(1, 1).replace("late 1", "late 0")).may(0), 255);
        Edge.same("not at all costs 1 more", Check.desk(Edge.bills(1, 1)).may(0), 127);
        Edge.same("not at all alone", Check.desk(ONE.replace("floor 5", "floor 5000")).may(0), 8);
        for (int fee : new int[] {4, 5, 6}) {
            PaymentRuns runs = Check.desk(Edge.desk(1, 0, 0, 99, 0, fee) + Edge.supplier(0) + Edge.bill(0, 10, 0, 0, 0, 5));
            Edge.same("may(0), fee " + fee, runs.may(0), fee < 5 ? 1 : fee == 5 ? 3 : 2);
        }
        Edge.of("41", "-2: there is none such.");
        ofBills("may", PaymentRuns::may);
    }
}
