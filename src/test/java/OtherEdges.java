/** Promises 42 to 46, 53 and 54: each sentence at its bounds. */
final class OtherEdges {
    private OtherEdges() {
    }

    static void all() {
        blame();
        need();
        floor();
        broke();
        closing();
        by();
        law();
    }

    private static void withoutDesk(String call, Edge.Asked asked, long due) {
        Edge.refused(call + " of a new one", PaymentRuns::new, asked, due);
        Edge.same(call + " of a desk without LINES", asked.of(Check.desk("")), due);
        Edge.isTrue(call + " of one LINE is answered", asked.of(Check.desk(Desks.EMPTY)) != due);
    }

    /** One of two bills of 30 can be paid; the one with greater rank is. Not paid they are late by 3 and by that told. */
    private static PaymentRuns rivals(int late) {
        return Check.desk(Edge.desk(1, 0, 0, 30, 0, 0) + Edge.supplier(9) + Edge.supplier(0) + Edge.bill(0, 30, 0, 0, 0, 3)
                + Edge.bill(1, 30, 0, 0, 0, late));
    }

    private static void blame() {
        Edge.of("42", "The BILL that, not there at all, leaves the least TOTAL by LAW,");
        // Without bill 0 the others are paid: 30. Without one of them bill 0 is still in the other's way.
        String three = Edge.desk(1, 0, 0, 30, 0, 0) + Edge.supplier(9) + Edge.supplier(0) + Edge.bill(0, 30, 0, 0, 0, 3)
                + Edge.bill(1, 20, 0, 0, 0, 5) + Edge.bill(1, 10, 0, 0, 0, 5);
        PaymentRuns least = Check.desk(three);
        Edge.same("total()", least.total(), 30 + 25 + 15);
        Edge.same("blame()", least.blame(), 0);
        // Two on two days with a fee each: without either one fee is saved. The smaller sum is left without the greater.
        for (int sum : new int[] {19, 20, 21}) {
            PaymentRuns runs = Check.desk(Edge.desk(2, 0, 0, 30, 0, 9) + Edge.supplier(0) + Edge.bill(0, 20, 0, 0, 1, 50)
                    + Edge.bill(0, sum, 0, 0, 1, 50) + Edge.cash(29, 1));
            Edge.same("fees(), sum " + sum, runs.fees(), 18);
            Edge.same("blame(), sum " + sum, runs.blame(), sum <= 20 ? 0 : 1);
        }
        Edge.of("42", "of those without which it is less than TOTAL now less what the BILL COSTS now (paid or not paid),");
        Edge.same("the other could be paid, late for nothing", rivals(0).blame(), -1);
        Edge.same("the other could be paid, late by 1", rivals(1).blame(), 0);
        // A bill that is not paid is never in the way; one alone neither, unless its fee goes with it.
        Edge.same("one that is not paid", Check.desk(Edge.bills(1, 1).replace("cash 9999", "cash 9")).blame(), -1);
        Edge.same("one alone", Check.desk(Edge.bills(1, 1)).blame(), -1);
        Edge.same("one alone, with a fee of 1", Check.desk(Edge.bills(1, 1).replace("fee 0", "fee 1")).blame(), 0);
        Edge.same("two for one fee", Check.desk(Edge.bills(1, 2).replace("fee 0", "fee 1")).blame(), -1);
        Edge.of("42", "the first of several.");
        PaymentRuns same = Check.desk(Edge.desk(2, 0, 0, 29, 0, 9) + Edge.supplier(0) + Edge.bill(0, 20, 0, 0, 1, 0).repeat(2)
                + Edge.cash(29, 1));
        Edge.same("fees()", same.fees(), 18);
        Edge.same("blame()", same.blame(), 0);
        Edge.of("42", "NONE: none;");
        Edge.same("none", Check.desk(Edge.bills(1, 5)).blame(), -1);
        Edge.same("without a BILL", Check.desk(Desks.EMPTY).blame(), -1);
        Edge.of("42", "-2: there is no DESK.");
        withoutDesk("blame()", PaymentRuns::blame, -2);
    }

    private static String needing(int floor, int fee, int... sums) {
        StringBuilder text = new StringBuilder(Edge.desk(2, 0, 0, 77, floor, fee) + Edge.supplier(0));
        for (int sum : sums) {
            text.append(Edge.bill(0, sum, 0, 0, 0, 0));
        }
        return text.toString();
    }

    private static void need() {
        Edge.of("43", "NEED: the least cash (0 .. 9,999) in place of that told by which all BILLS are paid by LAW.");
        Edge.same("without a BILL, below the floor", Check.desk(Desks.EMPTY).need(), 0);
        Edge.same("1", Check.desk(needing(0, 0, 1)).need(), 1);
        Edge.same("with a fee and a floor", Check.desk(needing(20, 3, 100, 50)).need(), 173);
        Edge.same("cash that comes", Check.desk(needing(20, 3, 100, 50) + Edge.cash(100, 1)).need(), 73);
        Edge.same("more comes than is needed", Check.desk(needing(20, 3, 100, 50) + Edge.cash(200, 1)).need(), 0);
        Edge.same("one coin less comes", Check.desk(needing(20, 3, 100, 50) + Edge.cash(172, 1)).need(), 1);
        Edge.same("just that comes", Check.desk(needing(20, 3, 100, 50) + Edge.cash(173, 1)).need(), 0);
        Edge.same("9998", Check.desk(needing(5000, 200, 3000, 1798)).need(), 9998);
        Edge.same("9999", Check.desk(needing(5000, 200, 3000, 1799)).need(), 9999);
        Edge.same("NET 0, nothing is needed", Check.desk(Edge.desk(2, 0, 0, 0, 0, 0) + Edge.supplier(0)
                + Edge.held(0, 9, 0, 0, 0, 0, 9)).need(), 0);
        PaymentRuns stays = Check.desk(needing(20, 3, 100, 50));
        stays.need();
        Edge.same("cash told stays", stays.count(3), 77);
        Edge.same("total() stays", stays.total(), 50 + 3 + 100);
        Edge.of("43", "NONE: by none;");
        Edge.same("10,000", Check.desk(needing(5000, 200, 3000, 1800)).need(), -1);
        Edge.same("10,000 of which 1 comes", Check.desk(needing(5000, 200, 3000, 1800) + Edge.cash(1, 0)).need(), 9999);
        PaymentRuns closed = Check.desk(needing(0, 0, 1));
        closed.fails(0);
        Edge.same("one day CLOSED", closed.need(), 1);
        closed.fails(1);
        Edge.same("all CLOSED", closed.need(), -1);
        Edge.of("43", "-2 likewise.");
        withoutDesk("need()", PaymentRuns::need, -2);
    }

    private static void floor() {
        Edge.of("44", "The greatest floor (0 .. 5,000) in place of that told by which TOTAL by LAW is no more than now.");
        for (int cash : new int[] {10, 11, 5009, 5010, 5011, 9999}) {
            PaymentRuns runs = Check.desk(Edge.desk(1, 0, 0, cash, 0, 0) + Edge.supplier(0) + Edge.bill(0, 10, 0, 0, 0, 1));
            Edge.same("floor(), cash " + cash, runs.floor(), Math.min(5000, cash - 10));
            Edge.same("the floor told stays", runs.count(4), 0);
        }
        for (int fee : new int[] {0, 1, 2}) {
            // Paid it costs a fee, not paid 1 for late: that is no more by a fee of 1, and less by one of 2.
            PaymentRuns runs = Check.desk(Edge.desk(1, 0, 0, 20, 0, fee) + Edge.supplier(0) + Edge.bill(0, 10, 0, 0, 0, 1));
            Edge.same("floor(), fee " + fee, runs.floor(), fee == 0 ? 10 : 5000);
        }
        Edge.same("without a BILL", Check.desk(Desks.EMPTY).floor(), 5000);
        for (int floor : new int[] {4999, 5000}) {
            PaymentRuns runs = Check.desk(Edge.desk(1, 0, 0, 5010, floor, 0) + Edge.supplier(0) + Edge.bill(0, 10, 0, 0, 0, 1));
            Edge.same("floor(), " + floor + " told", runs.floor(), 5000);
        }
        PaymentRuns own = Check.desk(Edge.desk(1, 0, 0, 30, 20, 0) + Edge.supplier(0) + Edge.bill(0, 10, 0, 0, 0, 1));
        Edge.same("that told is the greatest", own.floor(), 20);
        PaymentRuns open = Check.desk(Edge.desk(1, 0, 0, 29, 20, 0) + Edge.supplier(0) + Edge.bill(0, 10, 0, 0, 0, 1));
        Edge.same("not paid now", open.floor(), 5000);
        Edge.of("44", "-2 likewise.");
        withoutDesk("floor()", PaymentRuns::floor, -2);
    }

    /** A bill with cash from a day on, of 4. */
    private static String from(int day) {
        return Edge.desk(4, 0, 0, 0, 0, 0) + Edge.supplier(0) + Edge.bill(0, 10, 0, 0, 6, 0) + Edge.cash(10, day);
    }

    private static void broke() {
        Edge.of("45", "BROKE: the first day that, CLOSED besides, leaves a BILL not paid by LAW that is paid now.");
        for (int day = 0; day < 4; day++) {
            Edge.same("broke(), cash from day " + day, Check.desk(from(day)).broke(), day == 3 ? 3 : -1);
        }
        PaymentRuns runs = Check.desk(from(1));
        runs.fails(2);
        Edge.same("two days are left", runs.broke(), -1);
        runs.fails(3);
        Edge.same("one is left", runs.broke(), 1);
        Edge.same("closed() stays", runs.closed(), 12);
        // Two bills that each have a day of their own: the first of the two.
        PaymentRuns two = Check.desk(Edge.desk(2, 0, 0, 10, 0, 1) + Edge.supplier(0) + Edge.bill(0, 9, 0, 0, 0, 9)
                + Edge.bill(0, 9, 0, 0, 6, 0) + Edge.cash(10, 1));
        Edge.same("one on each day", two.file(0) * 8 + two.file(1), 10);
        Edge.same("the first day", two.broke(), 0);
        Edge.of("45", "NONE: none does;");
        Edge.same("not paid now either", Check.desk(from(3).replace("cash 10", "cash 9")).broke(), -1);
        Edge.same("without a BILL", Check.desk(Desks.EMPTY).broke(), -1);
        PaymentRuns closed = Check.desk(from(0));
        for (int d = 0; d < 4; d++) {
            closed.fails(d);
        }
        Edge.same("all CLOSED", closed.broke(), -1);
        Edge.of("45", "-2 likewise.");
        withoutDesk("broke()", PaymentRuns::broke, -2);
    }

    private static void closing() {
        Edge.of("46", "By how much TOTAL by LAW is more, if a day is CLOSED besides (CLOSED already, too; below 0, too).");
        PaymentRuns runs = Check.desk(Edge.desk(2, 0, 0, 99, 0, 0) + Edge.supplier(0) + Edge.bill(0, 50, 20, 0, 0, 3));
        Edge.same("closing(0)", runs.closing(0), 13);
        Edge.same("closing(1)", runs.closing(1), 0);
        Edge.same("closed() stays", runs.closed(), 0);
        runs.fails(0);
        Edge.same("closing(0), CLOSED already", runs.closing(0), 0);
        Edge.same("closing(1), none is left", runs.closing(1), 3);
        for (int fee : new int[] {4, 5, 6}) {
            PaymentRuns paid = Check.desk(Edge.desk(1, 0, 0, 99, 0, fee) + Edge.supplier(0) + Edge.bill(0, 10, 0, 0, 0, 5));
            Edge.same("closing(0), fee " + fee, paid.closing(0), 5 - fee);
        }
        Edge.of("46", "-100,000: there is no such day, no DESK.");
        for (int n = 1; n <= 7; n++) {
            String text = Edge.bills(1, 2).replace("days 7", "days " + n);
            Edge.range("closing, days " + n, () -> Edge.busy(text), n, PaymentRuns::closing, -100000);
        }
        Edge.refused("closing(0) without a DESK", PaymentRuns::new, r -> r.closing(0), -100000);
    }

    /** Cash for one of four bills, each late by its own: the first by law 0 and 2, the second by 1, the last by 3. */
    private static String laws(int... late) {
        return Edge.desk(1, 0, 0, 100, 0, 0) + Edge.supplier(0) + Edge.supplier(9) + Edge.bill(1, 100, 0, 0, 0, late[0])
                + Edge.bill(0, 125, 20, 0, 0, late[1]) + Edge.bill(0, 98, 0, 0, 0, late[2]) + Edge.bill(0, 97, 0, 0, 0, late[3]);
    }

    private static void by() {
        Edge.of("53", "TOTAL by a LAW in place of the one told.");
        // By 0 bill 0 is paid, by 1 bill 1 (25 off), by 2 bill 0 (all are due on day 0), by 3 bill 3.
        PaymentRuns runs = Check.desk(laws(7, 6, 5, 4));
        int[] due = {420 + 15, 420 + 16 - 25, 420 + 15, 420 + 18};
        for (int law = 0; law < 4; law++) {
            Edge.same("by(" + law + ")", runs.by(law), due[law]);
            Edge.same("the LAW told stays", runs.count(1), 0);
            Edge.same("a desk of this LAW", Check.desk(laws(7, 6, 5, 4).replace("law 0", "law " + law)).total(), due[law]);
        }
        Edge.of("53", "-2: there is none such, no DESK.");
        Edge.range("by", () -> Edge.busy(Desks.PLAIN), 4, PaymentRuns::by, -2);
        for (int law = -1; law <= 4; law++) {
            int asked = law;
            Edge.refused("by(" + law + ") without a DESK", PaymentRuns::new, r -> r.by(asked), -2);
        }
    }

    private static void law() {
        Edge.of("54", "The LAW by which it is least, the least of several.");
        Edge.same("1", Check.desk(laws(7, 6, 5, 4)).law(), 1);
        // A law saves the late of the bill that it pays, law 1 its 25 off, too.
        int[][] lates = {{31, 6, 0, 31, 0}, {31, 5, 0, 31, 0}, {31, 7, 0, 31, 1}, {31, 7, 0, 33, 3}, {31, 7, 0, 32, 1},
            {9, 9, 9, 60, 3}};
        for (int[] l : lates) {
            PaymentRuns runs = Check.desk(laws(l[0], l[1], l[2], l[3]));
            Edge.same("law(), late " + l[0] + " " + l[1] + " " + l[3], runs.law(), l[4]);
        }
        Edge.same("2", Check.desk(laws(0, 0, 50, 0).replaceAll("due 0 late 0", "due 1 late 0")).law(), 2);
        Edge.same("all alike", Check.desk(Edge.bills(1, 5).replace("law 0", "law 3")).law(), 0);
        Edge.same("without a BILL", Check.desk(Desks.EMPTY).law(), 0);
        Edge.of("54", "-2: there is no DESK.");
        withoutDesk("law()", PaymentRuns::law, -2);
    }
}
