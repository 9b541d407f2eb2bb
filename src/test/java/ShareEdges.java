/** Terms VII and VIII, promises 55 to 58: each sentence at its bounds. */
final class ShareEdges {
    /** Cash for one of two bills of 30: the first is ahead by law, the other would save 6 and is late by 7. */
    private static final String RIVALS = Edge.desk(1, 0, 0, 30, 0, 0) + Edge.supplier(9) + Edge.supplier(0)
            + Edge.bill(0, 30, 0, 0, 0, 0) + Edge.bill(1, 30, 20, 0, 0, 7);

    private ShareEdges() {
    }

    static void all() {
        sets();
        worth();
        share();
        game();
        rests();
        has();
    }

    private static void fraction(String what, PaymentRuns runs, int bill, int above, int below) {
        Edge.same(what + ", above", runs.share(bill, 0), above);
        Edge.same(what + ", below", runs.share(bill, 1), below);
    }

    private static void sets() {
        Edge.of("VII", "A set of BILLS alone is there: it is WORTH their NETS less their TOTAL by LAW (below 0, too).");
        PaymentRuns fee = Check.desk(Edge.desk(1, 0, 0, 9999, 0, 3) + Edge.supplier(0) + Edge.bill(0, 100, 10, 0, 0, 0)
                + Edge.bill(0, 50, 0, 0, 0, 0) + Edge.bill(0, 4, 20, 0, 0, 0));
        int[] due = {0, 7, -3, 7, -3, 7, -3, 7};
        for (int set = 0; set < 8; set++) {
            Edge.same("worth(" + set + ")", fee.worth(set), due[set]);
        }
        PaymentRuns rivals = Check.desk(RIVALS);
        int[] worth = {0, 0, 6, -7};
        for (int set = 0; set < 4; set++) {
            Edge.same("worth(" + set + ") of rivals", rivals.worth(set), worth[set]);
        }
        PaymentRuns held = Check.desk(Edge.desk(1, 0, 0, 9999, 0, 0) + Edge.supplier(0) + Edge.held(0, 100, 10, 0, 0, 0, 50));
        Edge.same("of NET", held.worth(1), 5);
        held.frees(0);
        Edge.same("of NET, released", held.worth(1), 10);
        Edge.of("VII", "BILLS come in an order, each has what the set is WORTH more by it (below 0, too);"
                + " each order is as likely: the mean.");
        fraction("off and a third of the fee", fee, 0, 9, 1);
        fraction("a third of the fee", fee, 1, -1, 1);
        fraction("off of nothing", fee, 2, -1, 1);
        // 0 or -13 for the first, -7 or 6 for the other.
        fraction("the first of rivals", rivals, 0, -13, 2);
        fraction("the other of rivals", rivals, 1, -1, 2);
    }

    private static void worth() {
        Edge.of("55", "WORTH (VII) of a set of BILLS (bits).");
        PaymentRuns five = Check.desk(Edge.bills(1, 5).replace("off 0", "off 20"));
        for (int set = 0; set < 32; set++) {
            Edge.same("worth(" + set + ")", five.worth(set), 2 * Integer.bitCount(set));
        }
        Edge.of("55", "-2: there is no such set, no DESK.");
        for (int n = 0; n <= 5; n++) {
            int bills = n;
            Edge.range("worth, of " + n, () -> Edge.busy(Edge.bills(1, bills)), 1 << n, PaymentRuns::worth, -2);
        }
        for (int set : new int[] {-1, 0, 1}) {
            Edge.refused("worth(" + set + ") without a DESK", PaymentRuns::new, runs -> runs.worth(set), -2);
        }
    }

    private static void share() {
        Edge.of("56", "SHARE (VII) of a BILL, above (what 0; below 0, too), below (1).");
        for (int n = 1; n <= 5; n++) {
            PaymentRuns runs = Check.desk(Edge.bills(1, n).replace("fee 0", "fee 1"));
            for (int b = 0; b < n; b++) {
                fraction("a fee of 1 for " + n, runs, b, -1, n);
            }
            fraction("a fee of " + n + " for as many", Check.desk(Edge.bills(1, n).replace("fee 0", "fee " + n)), n - 1, -1, 1);
            fraction("nothing for " + n, Check.desk(Edge.bills(1, n)), n - 1, 0, 1);
        }
        fraction("lowest terms", Check.desk(Edge.bills(1, 4).replace("fee 0", "fee 2")), 3, -1, 2);
        // The least and the greatest of a share: 600 of off, a fee of 200.
        String most = Edge.desk(1, 0, 0, 9999, 0, 0) + Edge.supplier(0) + Edge.bill(0, 3000, 20, 0, 0, 0);
        fraction("the most", Check.desk(most), 0, 600, 1);
        fraction("the least", Check.desk(Edge.bills(1, 1).replace("fee 0", "fee 200")), 0, -200, 1);
        fraction("late for all days", Check.desk(Edge.bills(1, 1).replace("cash 9999", "cash 0").replace("due 6 late 1", "due 0 late 99")),
                0, -693, 1);
        Edge.of("56", "-1,000,000: there are none such.");
        for (int n = 0; n <= 5; n++) {
            int bills = n;
            Edge.range("share(#, 0), of " + n, () -> Edge.busy(Edge.bills(1, bills)), n, (runs, b) -> runs.share(b, 0), -1000000);
            Edge.range("share(#, 1), of " + n, () -> Edge.busy(Edge.bills(1, bills)), n, (runs, b) -> runs.share(b, 1), -1000000);
        }
        Edge.range("share(0, #)", () -> Edge.busy(Edge.bills(1, 1)), 2, (runs, what) -> runs.share(0, what), -1000000);
        Edge.refused("share(0, 0) without a DESK", PaymentRuns::new, runs -> runs.share(0, 0), -1000000);
    }

    /** Two suppliers, so many days, cash told; bills are given. */
    private static String two(int days, int cash, String bills) {
        return Edge.desk(days, 0, 0, cash, 0, 0) + Edge.supplier(9) + Edge.supplier(0) + bills;
    }

    private static void game() {
        Edge.of("VIII", "Each of two SUPPLIERS gives 5 more off (above 20, too) on all its BILLS, or not.");
        for (int off = 0; off <= 20; off++) {
            PaymentRuns runs = Check.desk(two(1, 9999, Edge.bill(0, 100, off, 0, 0, 0)));
            Edge.same("not, off " + off, runs.has(0, 1, 0, 1), 100 - off);
            Edge.same("5 more, off " + off, runs.has(0, 1, 1, 0), 95 - off);
        }
        PaymentRuns all = Check.desk(two(1, 9999, Edge.bill(0, 100, 20, 0, 0, 0) + Edge.bill(1, 200, 7, 0, 0, 0)
                + Edge.bill(0, 300, 1, 0, 0, 0) + Edge.bill(1, 400, 0, 0, 0, 0)));
        Edge.same("the first, not", all.has(0, 1, 0, 0), 80 + 297);
        Edge.same("the first, on all its BILLS", all.has(0, 1, 1, 0), 75 + 282);
        Edge.same("the other, not", all.has(1, 0, 0, 1), 186 + 400);
        Edge.same("the other, on all its BILLS", all.has(1, 0, 1, 1), 176 + 380);
        Edge.same("off told stays", all.bill(0, 2), 20);
        // By law 1 more off is a greater RATE: the other one is paid in place of the first.
        PaymentRuns rate = Check.desk(two(1, 80, Edge.bill(0, 100, 20, 0, 0, 0) + Edge.bill(1, 100, 20, 0, 0, 0))
                .replace("law 0", "law 1"));
        Edge.same("alike, the first is paid", rate.has(0, 1, 0, 0), 80);
        Edge.same("the other gives more", rate.has(0, 1, 0, 1), -10);
        Edge.same("the other is paid", rate.has(1, 0, 1, 0), 75);
        Edge.of("VIII", "It has what it is paid by LAW (what they COST), less 10 for each day that each of its BILLS is paid"
                + " behind day 0 (not paid: days).");
        for (int days = 1; days <= 7; days++) {
            PaymentRuns runs = Check.desk(two(days, 9999, Edge.bill(0, 50, 0, 0, 0, 3) + Edge.bill(0, 20, 0, 0, 6, 0)));
            for (int d = 0; d < days; d++) {
                Edge.same("both on day " + d, runs.has(0, 1, 0, 0), 50 + 3 * d + 20 - 20 * d);
                Edge.same("one without a BILL", runs.has(1, 0, 0, 0), 0);
                runs.fails(d);
            }
            Edge.same("not paid, of days " + days, runs.has(0, 1, 0, 0), -20 * days);
        }
        PaymentRuns one = Check.desk(two(3, 50, Edge.bill(0, 50, 0, 0, 0, 3) + Edge.bill(0, 20, 0, 0, 6, 0)));
        Edge.same("one is paid, one is not", one.has(0, 1, 0, 0), 50 - 30);
        Edge.of("VIII", "REST: neither has more by the other choice alone.");
        int[][] sums = {{19, 15}, {20, 5}, {21, 5}};
        for (int[] s : sums) {
            // 5 off of 19 is nothing: both choices are as good.
            PaymentRuns runs = Check.desk(two(1, 9999, Edge.bill(0, s[0], 0, 0, 0, 0)));
            Edge.same("rests(0, 1), a bill of " + s[0], runs.rests(0, 1), s[1]);
        }
        int[][] cash = {{94, 15}, {95, 10}, {99, 10}, {100, 5}};
        for (int[] c : cash) {
            // Paid only if it gives more, from 95 on; in any case, from 100 on.
            PaymentRuns runs = Check.desk(two(1, c[0], Edge.bill(0, 100, 0, 0, 0, 0)));
            Edge.same("rests(0, 1), cash " + c[0], runs.rests(0, 1), c[1]);
        }
    }

    private static void rests() {
        Edge.of("57", "GAME (VIII): pairs of choices of two SUPPLIERS at REST, as bits: 1 neither gives more off, 2 the first one does,"
                + " 4 the other one, 8 both.");
        String bills = Edge.bill(0, 100, 0, 6, 6, 0) + Edge.bill(1, 100, 0, 6, 6, 0);
        PaymentRuns plenty = Check.desk(two(2, 9999, bills));
        Edge.same("cash for both", plenty.rests(0, 1), 1);
        Edge.same("the other way round", plenty.rests(1, 0), 1);
        PaymentRuns second = Check.desk(two(1, 195, bills));
        Edge.same("cash for the second, if it gives more", second.rests(0, 1), 4);
        Edge.same("the other way round", second.rests(1, 0), 2);
        // The first is paid on day 0 if it gives more, the other then on day 1 if it does, too.
        PaymentRuns both = Check.desk(two(2, 95, bills) + Edge.cash(95, 1));
        Edge.same("both", both.rests(0, 1), 8);
        Edge.same("both, the other way round", both.rests(1, 0), 8);
        Edge.same("all pairs, without a BILL", Check.desk(Edge.bills(2, 0)).rests(0, 1), 15);
        PaymentRuns none = Check.desk("desk days 7 law 1 odds 0 cash 100 floor 0 fee 0;supplier rank 0;supplier rank 0;"
                + "bill of 0 sum 100 off 20 by 6 due 6 late 0;bill of 1 sum 100 off 20 by 6 due 6 late 0;cash 80 on 6;");
        Edge.same("no pair", none.rests(0, 1), 0);
        Edge.of("57", "-2: there are none such, one twice.");
        for (int n = 2; n <= 4; n++) {
            int suppliers = n;
            Edge.range("rests(#, 1), of " + n, () -> Edge.busy(Edge.bills(suppliers, 2)), n,
                    (runs, s) -> runs.rests(s, s == 1 ? 0 : 1), -2);
            Edge.range("rests(0, #), of " + n, () -> Edge.busy(Edge.bills(suppliers, 2)), n,
                    (runs, s) -> runs.rests(s == 0 ? 1 : 0, s), -2);
            for (int s = 0; s < n; s++) {
                int twice = s;
                Edge.refused("rests, " + s + " twice", () -> Edge.busy(Edge.bills(suppliers, 2)), runs -> runs.rests(twice, twice), -2);
            }
        }
        Edge.refused("rests(0, 1) of one", () -> Edge.busy(Edge.bills(1, 2)), runs -> runs.rests(0, 1), -2);
        Edge.refused("rests(0, 1) without a DESK", PaymentRuns::new, runs -> runs.rests(0, 1), -2);
    }

    private static void has() {
        Edge.of("58", "What the first of two has by the choices (1 it gives more off, 0 not; below 0, too).");
        PaymentRuns runs = Check.desk(two(1, 195, Edge.bill(0, 100, 0, 6, 6, 0) + Edge.bill(1, 100, 0, 6, 6, 0)));
        int[][] first = {{100, 100}, {95, 95}};
        int[][] other = {{-10, 95}, {100, 95}};
        for (int more = 0; more < 2; more++) {
            for (int otherMore = 0; otherMore < 2; otherMore++) {
                Edge.same("has(0, 1, " + more + ", " + otherMore + ")", runs.has(0, 1, more, otherMore), first[more][otherMore]);
                Edge.same("has(1, 0, " + otherMore + ", " + more + ")", runs.has(1, 0, otherMore, more), other[more][otherMore]);
            }
        }
        PaymentRuns least = Check.desk(two(7, 0, Edge.bill(0, 10, 0, 0, 0, 0).repeat(5)));
        Edge.same("the least", least.has(0, 1, 0, 0), -350);
        Edge.of("58", "-100,000: there are none such, one twice.");
        for (int n = 2; n <= 4; n++) {
            int suppliers = n;
            Edge.range("has(#, 1, 0, 0), of " + n, () -> Edge.busy(Edge.bills(suppliers, 2)), n,
                    (r, s) -> r.has(s, s == 1 ? 0 : 1, 0, 0), -100000);
            Edge.range("has(0, #, 0, 0), of " + n, () -> Edge.busy(Edge.bills(suppliers, 2)), n,
                    (r, s) -> r.has(s == 0 ? 1 : 0, s, 0, 0), -100000);
            for (int s = 0; s < n; s++) {
                int twice = s;
                Edge.refused("has, " + s + " twice", () -> Edge.busy(Edge.bills(suppliers, 2)), r -> r.has(twice, twice, 0, 0), -100000);
            }
        }
        Edge.range("has(0, 1, #, 0)", () -> Edge.busy(Edge.bills(2, 2)), 2, (r, more) -> r.has(0, 1, more, 0), -100000);
        Edge.range("has(0, 1, 0, #)", () -> Edge.busy(Edge.bills(2, 2)), 2, (r, more) -> r.has(0, 1, 0, more), -100000);
        Edge.refused("has(0, 1, 0, 0) of one", () -> Edge.busy(Edge.bills(1, 2)), r -> r.has(0, 1, 0, 0), -100000);
        Edge.refused("has(0, 1, 0, 0) without a DESK", PaymentRuns::new, r -> r.has(0, 1, 0, 0), -100000);
    }
}
