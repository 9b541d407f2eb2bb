/** Promises 47 to 54: fits, low, high, ask, leaves, laws, by, law. */
public final class SeenTest {
    /**
     * Bill 0 goes on day 0 by an off of 10 or more of 100 (CASH 95, a fee of 5), else on day 1, where cash comes;
     * bill 1 goes with it: on day 0 there is enough for it by an off of 20 alone.
     */
    private static final String TWO = "desk days 2 law 0 odds 0 cash 95 floor 0 fee 5;supplier rank 5;"
            + "bill of 0 sum 100 off 15 by 0 due 1 late 0;bill of 0 sum 10 off 0 by 0 due 1 late 0;cash 500 on 1;";

    public static void main(String[] args) {
        fits();
        questions();
        refused();
        laws();
        Check.end();
    }

    private static void seen(PaymentRuns runs, int fits, int low, int high, long... row) {
        String told = java.util.Arrays.toString(row);
        Check.row(runs, 2, row);
        Check.same("fits of " + told, runs.fits(2, 0), fits);
        askOther(runs);
        Check.same("low of " + told, runs.low(2, 0), low);
        askOther(runs);
        Check.same("high of " + told, runs.high(2, 0), high);
    }

    /** What another row fits must not be taken for what this one does. */
    private static void askOther(PaymentRuns runs) {
        Check.row(runs, 3, 0, -1, 0, 0);
        runs.fits(3, 0);
    }

    private static void fits() {
        PaymentRuns runs = Check.desk(TWO);
        seen(runs, 21, 0, 20);
        seen(runs, 11, 10, 20, 0, 0);
        seen(runs, 10, 0, 9, 0, 1);
        seen(runs, 0, -1, -1, 0, -1);
        seen(runs, 1, 20, 20, 1, 0);
        seen(runs, 10, 10, 19, 0, 0, 1, 1);
        seen(runs, 0, -1, -1, 0, 0, 0, 1);
        seen(runs, 11, 10, 20, 0, 0, 0, 0);
        Check.same("off stays", runs.bill(0, 2), 15);
        Check.row(runs, 2, 0, 0);
        Check.same("fits, of the other bill", runs.fits(2, 1), 21);
        runs.fails(0);
        seen(runs, 0, -1, -1, 0, 0);
        seen(runs, 21, 0, 20, 0, 1);
        // An off of 1 or more lets bill 0 go at once.
        PaymentRuns nought = Check.desk("desk days 2 law 0 odds 0 cash 99 floor 0 fee 0;supplier rank 5;"
                + "bill of 0 sum 100 off 15 by 0 due 1 late 0;cash 500 on 1;");
        seen(nought, 1, 0, 0, 0, 1);
        seen(nought, 20, 1, 20, 0, 0);
    }

    private static void questions() {
        PaymentRuns runs = Check.desk(TWO);
        Check.row(runs, 0);
        // By the day of bill 0: 11 and 10 are left; of bill 1: 1 and 20.
        Check.same("ask", runs.ask(0, 0), 0);
        Check.same("leaves", runs.leaves(0, 0), 11);
        Check.row(runs, 0, 0, 0);
        Check.same("ask", runs.ask(0, 0), 1);
        Check.same("leaves", runs.leaves(0, 0), 10);
        Check.row(runs, 0, 0, 1);
        Check.same("ask, no day tells more", runs.ask(0, 0), -1);
        Check.same("leaves, as now", runs.leaves(0, 0), 10);
        Check.row(runs, 0, 0, -1);
        Check.same("ask, of none", runs.ask(0, 0), -1);
        Check.same("leaves, of none", runs.leaves(0, 0), 0);
        PaymentRuns first = Check.desk(TWO.replace("fee 5", "fee 0").replace("sum 10 ", "sum 95 ")
                .replace("off 0 by 0 due 1 late 0;cash", "off 0 by 0 due 0 late 0;cash"));
        Check.row(first, 0);
        // Bill 0 on day 0 by an off of 5 or more; bill 1 on day 0 if bill 0 is not.
        Check.same("fits", first.fits(0, 0), 21);
        Check.same("ask, the first of several", first.ask(0, 0), 0);
        Check.same("leaves", first.leaves(0, 0), 16);
    }

    private static void refused() {
        PaymentRuns runs = Check.desk(TWO);
        refusedBoth(runs, -1, -2);
        refusedBoth(runs, 4, -2);
        refusedBoth(runs, Integer.MAX_VALUE, -2);
        refusedBoth(runs, 1, -6);
        for (int none : new int[] {-1, 2, Integer.MIN_VALUE, Integer.MAX_VALUE}) {
            refusedSeen(runs, 1, none, -2);
        }
        Check.row(runs, 1, 0);
        refusedBoth(runs, 1, -2);
        Check.row(runs, 1, 0, 0, 1);
        refusedBoth(runs, 1, -2);
        Check.row(runs, 1, 2, 0);
        refusedBoth(runs, 1, -2);
        Check.row(runs, 1, -1, 0);
        refusedBoth(runs, 1, -2);
        Check.row(runs, 1, 0, 2);
        refusedBoth(runs, 1, -2);
        Check.row(runs, 1, 0, -2);
        refusedBoth(runs, 1, -2);
        Check.row(runs, 1, 1L << 32, 0);
        refusedBoth(runs, 1, -2);
        Check.row(runs, 1, 0, 1L << 32);
        refusedBoth(runs, 1, -2);
        PaymentRuns none = new PaymentRuns();
        refusedBoth(none, 0, -2);
        Check.row(none, 0);
        refusedBoth(none, 0, -2);
        PaymentRuns empty = Check.desk(Desks.EMPTY);
        refusedSeen(empty, 0, 0, -2);
        Check.same("laws of nothing", empty.laws(0), -6);
        Check.row(empty, 0);
        Check.same("laws of a row of none", empty.laws(0), 15);
    }

    private static void refusedBoth(PaymentRuns runs, int slot, int due) {
        refusedSeen(runs, slot, 0, due);
        Check.same("laws(" + slot + ")", runs.laws(slot), due);
    }

    private static void refusedSeen(PaymentRuns runs, int slot, int bill, int due) {
        String of = "(" + slot + ", " + bill + ")";
        Check.same("fits" + of, runs.fits(slot, bill), due);
        Check.same("low" + of, runs.low(slot, bill), due);
        Check.same("high" + of, runs.high(slot, bill), due);
        Check.same("ask" + of, runs.ask(slot, bill), due);
        Check.same("leaves" + of, runs.leaves(slot, bill), due);
    }

    /** Cash for one bill alone: which one it is, the law says. */
    private static void laws() {
        PaymentRuns runs = Check.desk("desk days 1 law 2 odds 0 cash 100 floor 0 fee 0;supplier rank 0;supplier rank 1;"
                + "bill of 1 sum 100 off 0 by 0 due 3 late 9;bill of 0 sum 99 off 9 by 0 due 1 late 0;"
                + "bill of 0 sum 98 off 0 by 0 due 0 late 2;");
        int[] due = {100 + 99 + 98 + 2, 100 + 91 + 98 + 2, 100 + 99 + 98, 100 + 99 + 98};
        for (int law = 0; law < 4; law++) {
            Check.same("by(" + law + ")", runs.by(law), due[law]);
        }
        Check.same("law()", runs.law(), 1);
        for (int none : new int[] {-1, 4, Integer.MIN_VALUE, Integer.MAX_VALUE}) {
            Check.same("by(" + none + ")", runs.by(none), -2);
        }
        Check.row(runs, 0, 0, 0);
        Check.same("laws, bill 0 is paid", runs.laws(0), 1);
        Check.row(runs, 0, 1, 0);
        Check.same("laws, bill 1 is paid", runs.laws(0), 2);
        Check.row(runs, 0, 2, 0, 1, -1);
        Check.same("laws, bill 2 is paid", runs.laws(0), 12);
        Check.row(runs, 0);
        Check.same("laws, nothing seen", runs.laws(0), 15);
        Check.same("the law stays", runs.count(1), 2);
        Check.same("law(), the least of several", Check.desk(Desks.PLAIN).law(), 0);
        Check.same("law() without a desk", new PaymentRuns().law(), -2);
        Check.same("by(0) without a desk", new PaymentRuns().by(0), -2);
    }
}
