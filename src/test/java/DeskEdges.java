/** Terms II and III, promises 6 to 13 and 68: each sentence at its bounds. */
final class DeskEdges {
    private DeskEdges() {
    }

    static void all() {
        netAndCosts();
        cashAndTotal();
        rates();
        rank();
        bill();
        net();
        costs();
        comes();
        closed();
        rate();
        worthy();
        count();
    }

    private static PaymentRuns one(int days, String bill) {
        return Check.desk(Edge.desk(days, 0, 0, 5000, 0, 0) + Edge.supplier(0) + bill);
    }

    private static void netAndCosts() {
        Edge.of("II", "NET of a BILL: sum less held (all of it, if it is released by an act).");
        int[][] sums = {{1, 0}, {1, 1}, {50, 0}, {50, 1}, {50, 49}, {50, 50}, {3000, 0}, {3000, 2999}, {3000, 3000}};
        for (int[] s : sums) {
            PaymentRuns runs = one(7, Edge.held(0, s[0], 0, 0, 6, 0, s[1]) + Edge.held(0, 9, 0, 0, 6, 0, 4));
            Edge.same("net(0)", runs.net(0), s[0] - s[1]);
            Edge.same("costs(0, 0)", runs.costs(0, 0), s[0] - s[1]);
            runs.frees(1);
            Edge.same("net(0), another one released", runs.net(0), s[0] - s[1]);
            runs.frees(0);
            Edge.same("net(0), released", runs.net(0), s[0]);
            Edge.same("costs(0, 0), released", runs.costs(0, 0), s[0]);
            runs.undo();
            Edge.same("net(0), taken back", runs.net(0), s[0] - s[1]);
        }
        Edge.of("II", "Paid on a day it COSTS its NET, less NET times off by 100 (cut), if the day is by or ahead of it;");
        int[][] cut = {{99, 1, 99}, {100, 1, 99}, {101, 1, 100}, {199, 1, 198}, {200, 1, 198}, {4, 20, 4}, {5, 20, 4},
            {9, 20, 8}, {10, 20, 8}, {3000, 20, 2400}, {3000, 0, 3000}, {1, 20, 1}};
        for (int[] c : cut) {
            Edge.same("costs of " + c[0] + " off " + c[1], one(7, Edge.bill(0, c[0], c[1], 3, 6, 0)).costs(0, 3), c[2]);
        }
        Edge.same("off of NET, not of the sum", one(7, Edge.held(0, 200, 10, 3, 6, 0, 101)).costs(0, 3), 99 - 9);
        for (int by = 0; by < 7; by++) {
            PaymentRuns runs = one(7, Edge.bill(0, 100, 20, by, 6, 0));
            for (int d = 0; d < 7; d++) {
                Edge.same("costs(0, " + d + ") by " + by, runs.costs(0, d), d <= by ? 80 : 100);
            }
        }
        Edge.of("II", "more late for each day behind due.");
        for (int due = 0; due < 7; due++) {
            PaymentRuns runs = one(7, Edge.bill(0, 100, 0, 0, due, 99));
            for (int d = 0; d < 7; d++) {
                Edge.same("costs(0, " + d + ") due " + due, runs.costs(0, d), 100 + 99 * Math.max(0, d - due));
            }
        }
        Edge.same("off and late together", one(7, Edge.bill(0, 100, 20, 5, 3, 7)).costs(0, 5), 80 + 14);
        Edge.of("II", "Not paid at all it COSTS as on day days (the one behind the last; late up to it, too), without off.");
        for (int days = 1; days <= 7; days++) {
            for (int due = 0; due < 7; due++) {
                PaymentRuns runs = one(days, Edge.bill(0, 100, 20, 6, due, 9));
                Edge.same("not at all, days " + days + " due " + due, runs.costs(0, days), 100 + 9 * Math.max(0, days - due));
                Edge.same("on the last, days " + days + " due " + due, runs.costs(0, days - 1),
                        80 + 9 * Math.max(0, days - 1 - due));
            }
        }
    }

    private static void cashAndTotal() {
        Edge.of("II", "CASH behind a day: the cash told, what came up to it (LINES), less what was paid up to it,"
                + " and a FEE for each day on which a BILL was paid.");
        // Bill 0 goes on day 1, when its cash is there; bill 1 on day 0; bill 2 with it, for no fee of its own.
        PaymentRuns runs = Check.desk(Edge.desk(4, 0, 0, 40, 5, 3) + Edge.supplier(0) + Edge.bill(0, 100, 0, 0, 6, 9)
                + Edge.bill(0, 10, 10, 0, 0, 9) + Edge.bill(0, 7, 0, 0, 0, 9) + Edge.cash(100, 1) + Edge.cash(6, 3)
                + Edge.cash(50, 4));
        Edge.same("file(0)", runs.file(0), 6);
        Edge.same("file(1)", runs.file(1), 1);
        int[] due = {40 - 9 - 7 - 3, 21 + 100 - 100 - 3, 18, 24};
        for (int d = 0; d < 4; d++) {
            Edge.same("cash(" + d + ")", runs.cash(d), due[d]);
        }
        Edge.of("II", "TOTAL: what all BILLS COST, and FEES.");
        Edge.same("total()", runs.total(), 100 + 9 + 7 + 3 + 3);
        Edge.same("of no BILLS", one(1, "").total(), 0);
        PaymentRuns none = Check.desk(Edge.desk(2, 0, 0, 0, 0, 200) + Edge.supplier(0) + Edge.bill(0, 50, 20, 1, 0, 4));
        Edge.same("not paid: without a FEE, and late", none.total(), 58);
        PaymentRuns most = Check.desk(Edge.desk(7, 0, 0, 0, 5000, 200) + Edge.supplier(0)
                + Edge.bill(0, 3000, 0, 0, 0, 99).repeat(5));
        Edge.same("the greatest", most.total(), 5 * (3000 + 7 * 99));
    }

    private static void rates() {
        Edge.of("III", "RATE of a BILL: NET times off by 100 (cut), by days that lie from by to due"
                + " (1, if due is not behind by), in lowest terms.");
        for (int by = 0; by < 7; by++) {
            for (int due = 0; due < 7; due++) {
                PaymentRuns runs = one(1, Edge.bill(0, 119, 20, by, due, 0));
                int days = due > by ? due - by : 1;
                int[] above = {0, 23, 23, 23, 23, 23, 23};
                Edge.same("above, by " + by + " due " + due, runs.rate(0, 0), above[days]);
                Edge.same("below, by " + by + " due " + due, runs.rate(0, 1), days);
                PaymentRuns even = one(1, Edge.bill(0, 60, 20, by, due, 0));
                int[] lowest = {0, 12, 6, 4, 3, 12, 2};
                int[] under = {0, 1, 1, 1, 1, 5, 1};
                Edge.same("above of 12, by " + by + " due " + due, even.rate(0, 0), lowest[days]);
                Edge.same("below of 12, by " + by + " due " + due, even.rate(0, 1), under[days]);
            }
        }
        for (int sum : new int[] {4, 5, 9, 10}) {
            Edge.same("cut, of " + sum, one(1, Edge.bill(0, sum, 20, 0, 1, 0)).rate(0, 0), sum / 5);
        }
        PaymentRuns nought = one(1, Edge.bill(0, 4, 20, 0, 6, 0));
        Edge.same("of nothing, above", nought.rate(0, 0), 0);
        Edge.same("of nothing, below", nought.rate(0, 1), 1);
        PaymentRuns held = one(1, Edge.held(0, 100, 20, 0, 3, 0, 91));
        Edge.same("of NET", held.rate(0, 0), 1);
        Edge.same("of NET, below", held.rate(0, 1), 3);
        held.frees(0);
        Edge.same("of NET, released", held.rate(0, 0), 20);
        Edge.of("III", "A day is CLOSED, if its file fails (acts): nothing is paid on it.");
        PaymentRuns runs = one(3, Edge.bill(0, 100, 20, 0, 0, 9));
        int[] total = {109, 118, 127};
        for (int d = 0; d < 3; d++) {
            Edge.same("day(0)", runs.day(0), d);
            Edge.same("fails(" + d + ")", runs.fails(d), total[d]);
            Edge.same("file(" + d + ")", runs.file(d), 0);
            Edge.same("closed()", runs.closed(), (2 << d) - 1);
        }
        Edge.same("all are CLOSED", runs.day(0), -1);
        Edge.same("undo()", runs.undo(), 2);
        Edge.same("the last is not", runs.day(0), 2);
    }

    private static void rank() {
        Edge.of("6", "Rank of a SUPPLIER.");
        PaymentRuns runs = Check.desk(Edge.desk(1, 0, 0, 0, 0, 0) + Edge.supplier(0) + Edge.supplier(9) + Edge.supplier(1)
                + Edge.supplier(8));
        int[] due = {0, 9, 1, 8};
        for (int s = 0; s < 4; s++) {
            Edge.same("rank(" + s + ")", runs.rank(s), due[s]);
        }
        Edge.of("6", "-2: there is none such.");
        for (int n = 0; n <= 4; n++) {
            int suppliers = n;
            Edge.range("rank, of " + n, () -> Edge.busy(Edge.bills(suppliers, 0)), n, PaymentRuns::rank, -2);
        }
        Edge.same("rank(0) without a DESK", new PaymentRuns().rank(0), -2);
    }

    private static void bill() {
        Edge.of("7", "Of a BILL, what 0: its SUPPLIER, 1: sum, 2: off, 3: by, 4: due, 5: late, 6: held as told.");
        String text = Edge.desk(1, 0, 0, 0, 0, 0) + Edge.supplier(0) + Edge.supplier(0) + Edge.held(1, 22, 13, 4, 5, 66, 7);
        int[] due = {1, 22, 13, 4, 5, 66, 7};
        PaymentRuns runs = Check.desk(text);
        for (int what = 0; what < 7; what++) {
            Edge.same("bill(0, " + what + ")", runs.bill(0, what), due[what]);
        }
        runs.frees(0);
        Edge.same("held as told, released", runs.bill(0, 6), 7);
        Edge.same("sum, released", runs.bill(0, 1), 22);
        Edge.of("7", "-2: there are none such.");
        for (int n = 0; n <= 5; n++) {
            int bills = n;
            Edge.range("bill(#, 0), of " + n, () -> Edge.busy(Edge.bills(1, bills)), n, (r, b) -> r.bill(b, 0), -2);
            Edge.range("bill(#, 6), of " + n, () -> Edge.busy(Edge.bills(1, bills)), n, (r, b) -> r.bill(b, 6), -2);
        }
        Edge.range("bill(0, #)", () -> Edge.busy(text), 7, (r, what) -> r.bill(0, what), -2);
        Edge.same("bill(0, 0) without a DESK", new PaymentRuns().bill(0, 0), -2);
    }

    private static void net() {
        Edge.of("8", "NET (II) of a BILL.");
        PaymentRuns runs = one(1, Edge.held(0, 30, 20, 6, 0, 9, 12) + Edge.bill(0, 31, 0, 0, 0, 0));
        Edge.same("net(0)", runs.net(0), 18);
        Edge.same("net(1)", runs.net(1), 31);
        Edge.of("8", "-2: there is none such.");
        for (int n = 0; n <= 5; n++) {
            int bills = n;
            Edge.range("net, of " + n, () -> Edge.busy(Edge.bills(1, bills)), n, PaymentRuns::net, -2);
        }
        Edge.same("net(0) without a DESK", new PaymentRuns().net(0), -2);
    }

    private static void costs() {
        Edge.of("9", "What it COSTS (II) to pay a BILL on a day (one more than the last: not at all).");
        PaymentRuns runs = one(3, Edge.bill(0, 100, 10, 6, 2, 5) + Edge.bill(0, 50, 10, 1, 0, 5));
        int[][] due = {{90, 90, 90, 105}, {45, 50, 60, 65}};
        for (int b = 0; b < 2; b++) {
            for (int d = 0; d < 4; d++) {
                Edge.same("costs(" + b + ", " + d + ")", runs.costs(b, d), due[b][d]);
            }
        }
        runs.fails(1);
        Edge.same("costs(0, 1), CLOSED", runs.costs(0, 1), 90);
        Edge.of("9", "-2: there are none such.");
        for (int days = 1; days <= 7; days++) {
            String text = Edge.bills(1, 1).replace("days 7", "days " + days);
            Edge.range("costs(0, #), days " + days, () -> Edge.busy(text), days + 1, (r, d) -> r.costs(0, d), -2);
        }
        for (int n = 0; n <= 5; n++) {
            int bills = n;
            Edge.range("costs(#, 0), of " + n, () -> Edge.busy(Edge.bills(1, bills)), n, (r, b) -> r.costs(b, 0), -2);
            Edge.range("costs(#, 7), of " + n, () -> Edge.busy(Edge.bills(1, bills)), n, (r, b) -> r.costs(b, 7), -2);
        }
        Edge.same("costs(0, 0) without a DESK", new PaymentRuns().costs(0, 0), -2);
    }

    private static void comes() {
        Edge.of("10", "What comes in on a day (told), in all.");
        PaymentRuns runs = Check.desk(Edge.desk(3, 0, 0, 77, 0, 0) + Edge.cash(3000, 0) + Edge.cash(1, 2) + Edge.cash(2999, 0)
                + Edge.cash(5, 3) + Edge.cash(6, 6) + Edge.cash(3, 2));
        int[] due = {5999, 0, 4};
        for (int d = 0; d < 3; d++) {
            Edge.same("comes(" + d + "), odds 0", runs.comes(d), due[d]);
        }
        PaymentRuns six = Check.desk(Edge.desk(7, 0, 0, 0, 0, 0) + Edge.cash(3000, 6).repeat(6));
        Edge.same("comes(6), six LINES", six.comes(6), 18000);
        runs.fails(0);
        Edge.same("comes(0), CLOSED", runs.comes(0), 5999);
        Edge.of("10", "-2: there is none such.");
        for (int n = 1; n <= 7; n++) {
            String text = Edge.desk(n, 0, 0, 0, 0, 0) + Edge.cash(5, n - 1) + Edge.cash(9, Math.min(6, n));
            Edge.range("comes, days " + n, () -> Edge.busy(text), n, PaymentRuns::comes, -2);
        }
        Edge.same("comes(0) without a DESK", new PaymentRuns().comes(0), -2);
    }

    private static void closed() {
        Edge.of("11", "Days that are CLOSED (acts), as bits.");
        PaymentRuns runs = Check.desk(Edge.bills(1, 5));
        Edge.same("none", runs.closed(), 0);
        int bits = 0;
        for (int d : new int[] {6, 0, 3, 3, 1, 5, 4, 2}) {
            runs.fails(d);
            bits |= 1 << d;
            Edge.same("closed()", runs.closed(), bits);
            runs.frees(d % 5);
            Edge.same("closed(), a release is no day", runs.closed(), bits);
        }
        Edge.same("all", bits, 127);
        Edge.of("11", "-2: there is no DESK.");
        Edge.refused("closed()", PaymentRuns::new, PaymentRuns::closed, -2);
    }

    private static void rate() {
        Edge.of("12", "RATE (III) of a BILL, above (what 0), below (1).");
        PaymentRuns runs = one(1, Edge.bill(0, 100, 9, 0, 6, 0));
        Edge.same("rate(0, 0)", runs.rate(0, 0), 3);
        Edge.same("rate(0, 1)", runs.rate(0, 1), 2);
        Edge.of("12", "-2: there are none such.");
        for (int n = 0; n <= 5; n++) {
            int bills = n;
            Edge.range("rate(#, 0), of " + n, () -> Edge.busy(Edge.bills(1, bills)), n, (r, b) -> r.rate(b, 0), -2);
            Edge.range("rate(#, 1), of " + n, () -> Edge.busy(Edge.bills(1, bills)), n, (r, b) -> r.rate(b, 1), -2);
        }
        Edge.range("rate(0, #)", () -> Edge.busy(Edge.bills(1, 1)), 2, (r, what) -> r.rate(0, what), -2);
        Edge.same("rate(0, 0) without a DESK", new PaymentRuns().rate(0, 0), -2);
    }

    private static void worthy() {
        Edge.of("13", "The BILL of the greatest RATE, the first of several.");
        // 7 by 3 days beside one step less, the same, one step more: 6 by 3, 14 by 6, 8 by 3; and 5 by 2, 9 by 4.
        int[][] other = {{6, 3, 0}, {7, 3, 0}, {14, 6, 0}, {8, 3, 1}, {5, 2, 1}, {9, 4, 0}, {2, 1, 0}, {3, 1, 1}, {0, 6, 0}};
        for (int[] o : other) {
            PaymentRuns runs = one(1, Edge.bill(0, 100, 7, 0, 3, 0) + Edge.bill(0, 100, o[0], 0, o[1], 0));
            Edge.same("worthy() beside " + o[0] + " by " + o[1], runs.worthy(), o[2]);
        }
        PaymentRuns same = one(1, Edge.bill(0, 4, 20, 0, 3, 0).repeat(5));
        Edge.same("all of RATE 0", same.worthy(), 0);
        PaymentRuns last = one(1, Edge.bill(0, 4, 20, 0, 3, 0).repeat(4) + Edge.bill(0, 5, 20, 0, 6, 0));
        Edge.same("the last", last.worthy(), 4);
        Edge.of("13", "NONE: there are none;");
        Edge.same("without a BILL", Edge.busy(Edge.bills(1, 0)).worthy(), -1);
        Edge.same("with one", Edge.busy(Edge.bills(1, 1)).worthy(), 0);
        Edge.of("13", "-2: there is no DESK.");
        Edge.refused("worthy()", PaymentRuns::new, PaymentRuns::worthy, -2);
    }

    private static void count() {
        Edge.of("68", "0 days, 1 LAW, 2 odds, 3 cash, 4 floor, 5 fee, 6 SUPPLIERS, 7 BILLS, 8 LINES of cash, 9 acts, 10 LINES,"
                + " 11 bytes of the TAPE, 12 SLOTS that have a row.");
        PaymentRuns runs = Check.desk(Edge.desk(6, 3, 9, 8888, 4444, 111) + Edge.supplier(0).repeat(4)
                + Edge.bill(0, 1, 0, 0, 0, 0).repeat(5) + Edge.cash(1, 0).repeat(6));
        int[] due = {6, 3, 9, 8888, 4444, 111, 4, 5, 6, 0, 16, 0, 0};
        counts(runs, due);
        runs.fails(0);
        runs.frees(4);
        runs.feed(0, 0, 0, 0, 0);
        runs.end(13);
        runs.row(3, 2, 0);
        due[9] = 2;
        due[11] = 13;
        due[12] = 1;
        counts(runs, due);
        for (int slot = 0; slot < 4; slot++) {
            runs.row(slot, 0, 60);
            Edge.same("count(12)", runs.count(12), slot < 3 ? slot + 2 : 4);
        }
        counts(Check.desk(Edge.desk(1, 0, 0, 0, 0, 0)), new int[] {1, 0, 0, 0, 0, 0, 0, 0, 0, 0, 1, 0, 0});
        Edge.of("68", "NONE for others.");
        for (int what : new int[] {Edge.MIN, -2, -1, 13, 14, Edge.MAX}) {
            Edge.refused("count(" + what + ")", () -> Edge.busy(Desks.PLAIN), r -> r.count(what), -1);
            Edge.same("count(" + what + ") without a DESK", new PaymentRuns().count(what), -1);
        }
    }

    private static void counts(PaymentRuns runs, int[] due) {
        for (int what = 0; what < due.length; what++) {
            Edge.same("count(" + what + ")", runs.count(what), due[what]);
        }
    }
}
