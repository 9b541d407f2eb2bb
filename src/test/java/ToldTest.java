/** Promises 6 to 13: rank, bill, net, costs, comes, closed, rate, worthy; and 68, count. */
public final class ToldTest {
    private static final int MIN = Integer.MIN_VALUE;
    private static final int MAX = Integer.MAX_VALUE;

    public static void main(String[] args) {
        told();
        costs();
        rates();
        counts();
        Check.end();
    }

    private static void told() {
        PaymentRuns runs = Check.desk(Desks.PLAIN);
        Check.same("rank(0)", runs.rank(0), 1);
        Check.same("rank(1)", runs.rank(1), 5);
        for (int none : new int[] {-1, 2, MIN, MAX}) {
            Check.same("rank(" + none + ")", runs.rank(none), -2);
            Check.same("bill(" + none + ", 0)", runs.bill(none, 0), -2);
            Check.same("net(" + none + ")", runs.net(none), -2);
            Check.same("costs(" + none + ", 0)", runs.costs(none, 0), -2);
            Check.same("rate(" + none + ", 0)", runs.rate(none, 0), -2);
        }
        int[][] bills = {{0, 50, 10, 0, 1, 3, 0}, {1, 60, 5, 1, 1, 7, 20}};
        for (int b = 0; b < 2; b++) {
            for (int what = 0; what < 7; what++) {
                Check.same("bill(" + b + ", " + what + ")", runs.bill(b, what), bills[b][what]);
            }
            Check.same("bill(b, 7)", runs.bill(b, 7), -2);
            Check.same("bill(b, -1)", runs.bill(b, -1), -2);
        }
        Check.same("net(0)", runs.net(0), 50);
        Check.same("net(1)", runs.net(1), 40);
        Check.same("comes(0)", runs.comes(0), 0);
        Check.same("comes(1)", runs.comes(1), 40);
        Check.same("comes(2)", runs.comes(2), 0);
        for (int none : new int[] {-1, 3, 6, MIN, MAX}) {
            Check.same("comes(" + none + ")", runs.comes(none), -2);
        }
        Check.same("closed()", runs.closed(), 0);
        runs.frees(1);
        runs.fails(2);
        Check.same("net(1) released", runs.net(1), 60);
        Check.same("net(0)", runs.net(0), 50);
        Check.same("bill(1, 6) released", runs.bill(1, 6), 20);
        Check.same("closed()", runs.closed(), 4);
        runs.fails(0);
        Check.same("closed()", runs.closed(), 5);
        PaymentRuns twice = Check.desk("desk days 1 law 0 odds 0 cash 0 floor 0 fee 0;cash 5 on 0;cash 8 on 1;cash 9 on 0;");
        Check.same("comes(0), two lines", twice.comes(0), 14);
    }

    private static void costs() {
        PaymentRuns runs = Check.desk(Desks.PLAIN);
        int[][] due = {{45, 50, 53, 56}, {38, 38, 47, 54}};
        for (int b = 0; b < 2; b++) {
            for (int d = 0; d < 4; d++) {
                Check.same("costs(" + b + ", " + d + ")", runs.costs(b, d), due[b][d]);
            }
        }
        for (int none : new int[] {-1, 4, MIN, MAX}) {
            Check.same("costs(0, " + none + ")", runs.costs(0, none), -2);
        }
        runs.frees(1);
        Check.same("costs(1, 0) released", runs.costs(1, 0), 57);
        Check.same("costs(1, 3) released", runs.costs(1, 3), 74);
        PaymentRuns far = Check.desk("desk days 1 law 0 odds 0 cash 0 floor 0 fee 0;supplier rank 0;"
                + "bill of 0 sum 199 off 1 by 6 due 0 late 9;bill of 0 sum 199 off 20 by 6 due 6 late 9;");
        Check.same("off is cut", far.costs(0, 0), 198);
        Check.same("not paid has no off, but late", far.costs(0, 1), 208);
        Check.same("not paid has no off", far.costs(1, 1), 199);
    }

    private static void rates() {
        PaymentRuns runs = Check.desk(Desks.ORDERS);
        int[][] due = {{2, 1}, {1, 2}, {20, 1}, {20, 1}, {5, 3}};
        for (int b = 0; b < 5; b++) {
            Check.same("rate(" + b + ", 0)", runs.rate(b, 0), due[b][0]);
            Check.same("rate(" + b + ", 1)", runs.rate(b, 1), due[b][1]);
            Check.same("rate(" + b + ", 2)", runs.rate(b, 2), -2);
            Check.same("rate(" + b + ", -1)", runs.rate(b, -1), -2);
        }
        Check.same("worthy(), the first of several", runs.worthy(), 2);
        runs.frees(4);
        Check.same("rate(4, 0) released", runs.rate(4, 0), 30);
        Check.same("rate(4, 1) released", runs.rate(4, 1), 1);
        Check.same("worthy() released", runs.worthy(), 4);
        PaymentRuns back = Check.desk("desk days 2 law 0 odds 0 cash 0 floor 0 fee 0;supplier rank 0;"
                + "bill of 0 sum 99 off 1 by 0 due 5 late 0;bill of 0 sum 100 off 7 by 5 due 2 late 0;");
        Check.same("rate of nothing, above", back.rate(0, 0), 0);
        Check.same("rate of nothing, below", back.rate(0, 1), 1);
        Check.same("due ahead of by, above", back.rate(1, 0), 7);
        Check.same("due ahead of by, below", back.rate(1, 1), 1);
        Check.same("worthy() without a bill", Check.desk(Desks.EMPTY).worthy(), -1);
        Check.same("worthy() without a desk", new PaymentRuns().worthy(), -2);
    }

    private static void counts() {
        PaymentRuns runs = Check.desk(Desks.PLAIN);
        runs.frees(0);
        runs.feed(0, 0, 0, 0, 0);
        runs.row(2, 0, 5);
        runs.row(3, 0, 0);
        int[] due = {3, 0, 5, 100, 10, 2, 2, 2, 2, 1, 7, 20, 2};
        for (int what = 0; what < due.length; what++) {
            Check.same("count(" + what + ")", runs.count(what), due[what]);
        }
        for (int none : new int[] {-1, 13, MIN, MAX}) {
            Check.same("count(" + none + ")", runs.count(none), -1);
        }
        Check.same("count(1)", Check.desk(Desks.EMPTY).count(1), 1);
    }
}
