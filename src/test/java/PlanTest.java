/** Promises 32 to 41: plans that are told, and the best ones. */
public final class PlanTest {
    public static void main(String[] args) {
        toldPlans();
        refusedPlans();
        bestPlan();
        closedDays();
        ties();
        oneDay();
        nothingToPay();
        noneSuch();
        Check.end();
    }

    private static void plan(PaymentRuns runs, int lawful, int sums, int falls, long... days) {
        String told = java.util.Arrays.toString(days);
        Check.row(runs, 1, days);
        Check.same("lawful of " + told, runs.lawful(1), lawful);
        Check.same("sums of " + told, runs.sums(1), sums);
        Check.same("falls of " + told, runs.falls(1), falls);
    }

    private static void toldPlans() {
        PaymentRuns runs = Check.desk(Desks.PLAIN);
        plan(runs, 1, 85, -1, 0, 0);
        plan(runs, 1, 110, -1, -1, -1);
        plan(runs, 1, 47 + 54, -1, 0, -1);
        plan(runs, 1, 53 + 47 + 2, -1, 2, 2);
        plan(runs, 1, 50 + 38 + 4, -1, 1, 0);
        runs.frees(1);
        plan(runs, 0, 104, 0, 0, 0);
        runs.fails(1);
        plan(runs, 0, 109, -1, 1, 1);
        PaymentRuns poor = Check.desk("desk days 3 law 0 odds 0 cash 3 floor 9 fee 1;supplier rank 0;"
                + "bill of 0 sum 40 off 0 by 0 due 0 late 1;bill of 0 sum 1 off 0 by 0 due 2 late 0;cash 50 on 1;");
        plan(poor, 1, 41 + 1 + 2, 0, 1, 2);
        plan(poor, 0, 41 + 1 + 2, 0, 1, 0);
        plan(poor, 1, 43 + 1, 0, -1, -1);
        PaymentRuns floor = Check.desk("desk days 2 law 0 odds 0 cash 10 floor 5 fee 1;supplier rank 0;"
                + "bill of 0 sum 4 off 0 by 0 due 0 late 1;");
        plan(floor, 1, 5, -1, 0);
        plan(floor, 0, 6, 1, 1);
    }

    private static void refusedPlans() {
        PaymentRuns runs = Check.desk(Desks.PLAIN);
        refused(runs, -1, -2);
        refused(runs, 4, -2);
        refused(runs, Integer.MIN_VALUE, -2);
        refused(runs, Integer.MAX_VALUE, -2);
        refused(runs, 0, -6);
        Check.row(runs, 0, 0, 3);
        refused(runs, 0, -2);
        Check.row(runs, 0, -2, 0);
        refused(runs, 0, -2);
        Check.row(runs, 0, 0, 1L << 32);
        refused(runs, 0, -2);
        Check.row(runs, 0, 0);
        refused(runs, 0, -2);
        Check.row(runs, 0, 0, 0, 0);
        refused(runs, 0, -2);
        PaymentRuns none = new PaymentRuns();
        refused(none, 0, -2);
        Check.row(none, 0);
        refused(none, 0, -2);
        PaymentRuns empty = Check.desk(Desks.EMPTY);
        Check.row(empty, 0);
        Check.same("lawful without a bill", empty.lawful(0), 1);
        Check.same("sums without a bill", empty.sums(0), 0);
        Check.same("falls without a bill", empty.falls(0), 0);
    }

    private static void refused(PaymentRuns runs, int slot, int due) {
        Check.same("lawful(" + slot + ")", runs.lawful(slot), due);
        Check.same("sums(" + slot + ")", runs.sums(slot), due);
        Check.same("falls(" + slot + ")", runs.falls(slot), due);
    }

    private static void bestPlan() {
        PaymentRuns runs = Check.desk(Desks.PLAIN);
        Check.same("best()", runs.best(), 85);
        Check.same("waste()", runs.waste(), 0);
        Check.same("batch()", runs.batch(), 85);
        runs.frees(1);
        Check.same("best()", runs.best(), 106);
        Check.same("choice(0)", runs.choice(0), 0);
        Check.same("choice(1)", runs.choice(1), 1);
        Check.same("waste()", runs.waste(), 5);
        Check.same("batch()", runs.batch(), 109);
        Check.same("when()", runs.when(), 1);
        int[][] with = {{106, 109, 114}, {111, 106, 116}};
        for (int b = 0; b < 2; b++) {
            for (int d = 0; d < 3; d++) {
                Check.same("with(" + b + ", " + d + ")", runs.with(b, d), with[b][d]);
            }
        }
        Check.same("may(0)", runs.may(0), 1);
        Check.same("may(1)", runs.may(1), 2);
    }

    private static void closedDays() {
        PaymentRuns runs = Check.desk(Desks.PLAIN);
        runs.fails(0);
        Check.same("best()", runs.best(), 90);
        Check.same("with(0, 0), closed", runs.with(0, 0), -1);
        Check.same("choice(0)", runs.choice(0), 1);
        runs.fails(1);
        runs.fails(2);
        Check.same("best(), all closed", runs.best(), 110);
        Check.same("choice(0)", runs.choice(0), -1);
        Check.same("may(1)", runs.may(1), 8);
        Check.same("batch()", runs.batch(), 110);
        Check.same("when()", runs.when(), -1);
        Check.same("waste()", runs.waste(), 0);
    }

    /** Days of one price: the least days of the first bills first, not at all behind all days. */
    private static void ties() {
        PaymentRuns runs = Check.desk("desk days 3 law 0 odds 0 cash 20 floor 0 fee 5;supplier rank 0;"
                + "bill of 0 sum 10 off 0 by 0 due 2 late 0;bill of 0 sum 10 off 0 by 0 due 2 late 5;cash 10 on 1;");
        Check.same("best()", runs.best(), 25);
        Check.same("choice(0)", runs.choice(0), 1);
        Check.same("choice(1)", runs.choice(1), 1);
        Check.same("may(0), not at all too", runs.may(0), 14);
        Check.same("may(1), late costs as much as the fee", runs.may(1), 15);
        Check.same("batch()", runs.batch(), 25);
        Check.same("when()", runs.when(), 0);
        Check.same("with(0, 0)", runs.with(0, 0), 30);
    }

    private static void oneDay() {
        PaymentRuns runs = Check.desk("desk days 2 law 0 odds 0 cash 20 floor 0 fee 5;supplier rank 0;"
                + "bill of 0 sum 10 off 0 by 0 due 1 late 5;");
        Check.same("batch(), as dear as none", runs.batch(), 15);
        Check.same("when(), a day goes ahead of none", runs.when(), 0);
        PaymentRuns dear = Check.desk("desk days 2 law 0 odds 0 cash 20 floor 0 fee 6;supplier rank 0;"
                + "bill of 0 sum 10 off 0 by 0 due 1 late 5;");
        Check.same("batch(), none is cheaper", dear.batch(), 15);
        Check.same("when()", dear.when(), -1);
        Check.same("by law it is paid", dear.day(0), 0);
        Check.same("waste()", dear.waste(), 1);
        PaymentRuns later = Check.desk("desk days 3 law 0 odds 0 cash 20 floor 0 fee 1;supplier rank 0;"
                + "bill of 0 sum 15 off 0 by 0 due 2 late 9;bill of 0 sum 15 off 0 by 0 due 2 late 9;cash 20 on 1;");
        Check.same("batch()", later.batch(), 31);
        Check.same("when()", later.when(), 1);
    }

    private static void nothingToPay() {
        PaymentRuns runs = Check.desk(Desks.EMPTY);
        Check.same("best()", runs.best(), 0);
        Check.same("batch()", runs.batch(), 0);
        Check.same("when()", runs.when(), -1);
        Check.same("waste()", runs.waste(), 0);
        Check.same("choice(0)", runs.choice(0), -2);
        Check.same("may(0)", runs.may(0), -2);
    }

    private static void noneSuch() {
        PaymentRuns none = new PaymentRuns();
        int[] got = {none.best(), none.choice(0), none.waste(), none.batch(), none.when(), none.with(0, 0), none.may(0)};
        for (int i = 0; i < got.length; i++) {
            Check.same("without a desk, call " + i, got[i], -2);
        }
        PaymentRuns runs = Check.desk(Desks.PLAIN);
        for (int i : new int[] {-1, 3, Integer.MIN_VALUE, Integer.MAX_VALUE}) {
            Check.same("choice(" + i + ")", runs.choice(i), -2);
            Check.same("may(" + i + ")", runs.may(i), -2);
            Check.same("with(" + i + ", 0)", runs.with(i, 0), -2);
            Check.same("with(0, " + i + ")", runs.with(0, i), -2);
        }
        Check.same("with(2, 0)", runs.with(2, 0), -2);
    }
}
