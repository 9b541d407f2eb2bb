/** Term IV and promises 14 to 31: each sentence at its bounds. */
final class LawEdges {
    /** Bill 0 is paid on day 1 of 3, bill 1 is not, bill 2 on day 2; day 0 has no cash. */
    private static final String THREE = Edge.desk(3, 2, 0, 10, 10, 1) + Edge.supplier(0) + Edge.supplier(0)
            + Edge.bill(0, 40, 10, 1, 0, 2) + Edge.bill(1, 500, 10, 6, 1, 3) + Edge.bill(1, 60, 0, 6, 1, 4)
            + Edge.cash(37 + 2, 1) + Edge.cash(65, 2);

    private LawEdges() {
    }

    static void all() {
        orders();
        days();
        floors();
        billByLaw();
        order();
        fileAndPays();
        cashRoomTight();
        feesAndOpen();
        caughtAndLate();
        savedLostTotal();
        early();
        suppliers();
        busy();
    }

    /** The first of two bills of two suppliers, by a law. */
    private static void first(int law, String bill, String other, int rank, int otherRank, int due) {
        PaymentRuns runs = Check.desk(Edge.desk(3, law, 0, 9999, 0, 0) + Edge.supplier(rank) + Edge.supplier(otherRank)
                + bill + other);
        Edge.same("order(0) by law " + law, runs.order(0), due);
        Edge.same("order(1) by law " + law, runs.order(1), 1 - due);
    }

    private static void orders() {
        Edge.of("IV", "By LAW BILLS come in an order, 0: those of SUPPLIERS of greater rank first.");
        String bill = Edge.bill(0, 100, 10, 0, 3, 0);
        String like = Edge.bill(1, 100, 10, 0, 3, 0);
        for (int[] r : new int[][] {{5, 4, 0}, {5, 5, 0}, {5, 6, 1}, {0, 9, 1}, {9, 0, 0}, {0, 1, 1}, {9, 9, 0}, {0, 0, 0}}) {
            first(0, bill, like, r[0], r[1], r[2]);
            // A rate, a day and a sum that would put the other one first by another law.
            first(0, bill, Edge.bill(1, 90, 20, 0, 1, 0), r[0], r[1], r[2]);
        }
        Edge.of("IV", "1: of greater RATE first.");
        for (int[] r : new int[][] {{9, 3, 0}, {10, 3, 0}, {11, 3, 1}, {7, 2, 1}, {6, 2, 0}, {20, 6, 0}, {3, 1, 0}, {4, 1, 1}}) {
            first(1, bill, Edge.bill(1, 100, r[0], 0, r[1], 0), 0, 9, r[2]);
        }
        Edge.of("IV", "2: due sooner first.");
        for (int[] r : new int[][] {{2, 1}, {3, 0}, {4, 0}, {0, 1}, {6, 0}}) {
            first(2, bill, Edge.bill(1, 99, 20, 0, r[0], 0), 0, 9, r[1]);
        }
        Edge.of("IV", "3: of smaller NET first;");
        for (int[] r : new int[][] {{99, 1}, {100, 0}, {101, 0}, {1, 1}, {3000, 0}}) {
            first(3, bill, Edge.bill(1, r[0], 20, 0, 1, 0), 0, 9, r[1]);
        }
        first(3, bill, Edge.held(1, 200, 20, 0, 1, 0, 101), 0, 9, 1);
        first(3, bill, Edge.held(1, 200, 20, 0, 1, 0, 100), 0, 9, 0);
        Edge.of("IV", "of several the least number.");
        for (int law = 0; law < 4; law++) {
            PaymentRuns runs = Check.desk(Edge.desk(3, law, 0, 9999, 0, 0) + Edge.supplier(4) + Edge.supplier(4)
                    + like + bill + like + like + bill);
            for (int i = 0; i < 5; i++) {
                Edge.same("order(" + i + ") by law " + law, runs.order(i), i);
            }
        }
    }

    private static void days() {
        Edge.of("IV", "Each is paid on the day (not CLOSED) on which what it COSTS, and the FEE, if nothing is paid on it yet,"
                + " are together least,");
        // Bill 0 has to wait for day 2, two days behind the due of bill 1: 2 times 4 late beside a fee of 7, 8, 9.
        for (int fee : new int[] {0, 7, 8, 9}) {
            PaymentRuns runs = Check.desk(waiting(fee, 4));
            Edge.same("day(0), fee " + fee, runs.day(0), 2);
            Edge.same("day(1), fee " + fee, runs.day(1), fee <= 8 ? 0 : 2);
            Edge.same("fees(), fee " + fee, runs.fees(), fee <= 8 ? 2 * fee : fee);
        }
        PaymentRuns closed = Check.desk(waiting(7, 4));
        closed.fails(0);
        Edge.same("day(1), day 0 CLOSED: 4 and a fee of 7 beside 8", closed.day(1), 2);
        Edge.same("off is caught", Check.desk(Edge.desk(3, 0, 0, 99, 0, 0) + Edge.supplier(0)
                + Edge.bill(0, 50, 20, 1, 0, 10)).day(0), 0);
        Edge.of("IV", "the earliest of several,");
        Edge.same("of all days", Check.desk(Edge.bills(1, 1)).day(0), 0);
        Edge.same("8 late beside a fee of 8", Check.desk(waiting(8, 4)).day(1), 0);
        PaymentRuns first = Check.desk(Edge.bills(1, 1));
        for (int d = 0; d < 6; d++) {
            first.fails(d);
            Edge.same("behind CLOSED days", first.day(0), d + 1);
        }
        Edge.of("IV", "if there is none, it is not paid.");
        first.fails(6);
        Edge.same("all CLOSED", first.day(0), -1);
        Edge.same("open()", first.open(), 1);
        for (int cash : new int[] {129, 130}) {
            PaymentRuns runs = Check.desk(Edge.desk(3, 0, 0, cash, 0, 0) + Edge.supplier(0) + Edge.bill(0, 130, 0, 0, 6, 0));
            Edge.same("day(0), cash " + cash, runs.day(0), cash < 130 ? -1 : 0);
        }
    }

    private static String waiting(int fee, int late) {
        return Edge.desk(3, 0, 0, 30, 0, fee) + Edge.supplier(9) + Edge.supplier(0) + Edge.bill(0, 130, 0, 0, 6, 0)
                + Edge.bill(1, 10, 0, 0, 0, late) + Edge.cash(100, 2).repeat(2);
    }

    private static void floors() {
        Edge.of("IV", "of those by which CASH behind no day from it on to the last falls below the floor"
                + " (with LINES, and all that are planned ahead of it);");
        for (int cash : new int[] {62, 63, 64}) {
            PaymentRuns runs = Check.desk(Edge.desk(2, 0, 0, cash, 10, 3) + Edge.supplier(0) + Edge.bill(0, 50, 0, 0, 1, 0));
            Edge.same("day(0), cash " + cash, runs.day(0), cash < 63 ? -1 : 0);
        }
        for (int came : new int[] {12, 13, 14}) {
            PaymentRuns runs = Check.desk(Edge.desk(2, 0, 0, 50, 10, 3) + Edge.supplier(0) + Edge.bill(0, 50, 0, 0, 1, 0)
                    + Edge.cash(came, 0));
            Edge.same("day(0), with a LINE of " + came, runs.day(0), came < 13 ? -1 : 0);
        }
        // The first takes 20 on day 2; 10 more on day 0 leave 10 there, but behind day 2 what came less 20.
        for (int came : new int[] {19, 20, 21}) {
            PaymentRuns runs = Check.desk(Edge.desk(3, 0, 0, 10, 0, 0) + Edge.supplier(9) + Edge.supplier(0)
                    + Edge.bill(0, 20, 0, 0, 6, 0) + Edge.bill(1, 10, 0, 0, 0, 1) + Edge.cash(came, 2));
            Edge.same("day(0), " + came + " come", runs.day(0), 2);
            Edge.same("day(1), " + came + " come", runs.day(1), came < 20 ? -1 : 0);
        }
        // Where a file is paid already a bill needs no fee.
        for (int cash : new int[] {26, 27}) {
            PaymentRuns runs = Check.desk(Edge.desk(1, 0, 0, cash, 0, 7) + Edge.supplier(0)
                    + Edge.bill(0, 10, 0, 0, 0, 0).repeat(2));
            Edge.same("open(), cash " + cash, runs.open(), cash < 27 ? 2 : 0);
        }
        Edge.of("IV", "(Behind days ahead of it CASH may be below the floor.)");
        PaymentRuns ahead = Check.desk(Edge.desk(3, 0, 0, 0, 5000, 0) + Edge.supplier(0) + Edge.bill(0, 1000, 0, 0, 0, 0)
                + Edge.cash(3000, 1).repeat(2));
        Edge.same("day(0)", ahead.day(0), 1);
        Edge.same("cash(0)", ahead.cash(0), 0);
        Edge.same("cash(1)", ahead.cash(1), 5000);
        Edge.same("room()", ahead.room(), -5000);
    }

    private static void billByLaw() {
        Edge.of("14", "The day on which a BILL is paid by LAW (IV).");
        PaymentRuns runs = Check.desk(THREE);
        Edge.same("day(0)", runs.day(0), 1);
        Edge.same("day(2)", runs.day(2), 2);
        Edge.of("14", "NONE: on none;");
        Edge.same("day(1)", runs.day(1), -1);
        Edge.of("14", "-2: there is none such.");
        ofBills("day", PaymentRuns::day, -2);
    }

    /** A call that is asked of a bill, of each number of bills. */
    private static void ofBills(String call, Edge.AskedWith asked, long due) {
        for (int n = 0; n <= 5; n++) {
            int bills = n;
            Edge.range(call + ", of " + n, () -> Edge.busy(Edge.bills(1, bills)), n, asked, due);
        }
        Edge.refused(call + " without a DESK", PaymentRuns::new, runs -> asked.of(runs, 0), due);
    }

    /** A call that is asked of a day, of each number of days. */
    private static void ofDays(String call, Edge.AskedWith asked, long due) {
        for (int n = 1; n <= 7; n++) {
            String text = Edge.bills(1, 2).replace("days 7", "days " + n);
            Edge.range(call + ", of days " + n, () -> Edge.busy(text), n, asked, due);
        }
        Edge.refused(call + " without a DESK", PaymentRuns::new, runs -> asked.of(runs, 0), due);
    }

    private static void withoutDesk(String call, Edge.Asked asked, long due) {
        Edge.refused(call + " of a new one", PaymentRuns::new, asked, due);
        Edge.same(call + " of a desk without LINES", asked.of(Check.desk("")), due);
        Edge.isTrue(call + " of one LINE is answered", asked.of(Check.desk(Desks.EMPTY)) != due);
    }

    private static void order() {
        Edge.of("15", "The i-th BILL (from 0) in the order of LAW.");
        int[] due = {0, 1, 2};
        PaymentRuns runs = Check.desk(THREE);
        for (int i = 0; i < 3; i++) {
            Edge.same("order(" + i + ")", runs.order(i), due[i]);
        }
        Edge.same("one that is not paid has its place", runs.day(runs.order(1)), -1);
        Edge.of("15", "NONE: there is none such;");
        for (int n = 0; n <= 5; n++) {
            PaymentRuns some = Check.desk(Edge.bills(1, n));
            for (int i = 0; i <= 6; i++) {
                Edge.same("order(" + i + ") of " + n, some.order(i), i < n ? i : -1);
            }
            Edge.same("order(maximum)", some.order(Edge.MAX), -1);
        }
        Edge.of("15", "-2: i is below 0, there is no DESK.");
        for (int i : new int[] {-1, -2, Edge.MIN}) {
            Edge.refused("order(" + i + ")", () -> Edge.busy(Desks.PLAIN), r -> r.order(i), -2);
            Edge.refused("order(" + i + ") without a BILL", () -> Edge.busy(Desks.EMPTY), r -> r.order(i), -2);
        }
        for (int i : new int[] {-1, 0, 1, 5, Edge.MAX}) {
            Edge.refused("order(" + i + ") without a DESK", PaymentRuns::new, r -> r.order(i), -2);
        }
    }

    private static void fileAndPays() {
        Edge.of("16", "BILLS that are paid on a day by LAW, as bits.");
        PaymentRuns runs = Check.desk(THREE);
        int[] files = {0, 1, 4};
        int[] pays = {0, 36 + 2 + 1, 64 + 1};
        for (int d = 0; d < 3; d++) {
            Edge.same("file(" + d + ")", runs.file(d), files[d]);
        }
        Edge.same("five", Check.desk(Edge.bills(1, 5)).file(0), 31);
        Edge.of("16", "-2: there is no such day, no DESK.");
        ofDays("file", PaymentRuns::file, -2);
        Edge.of("17", "What goes out on it, with FEES.");
        for (int d = 0; d < 3; d++) {
            Edge.same("pays(" + d + ")", runs.pays(d), pays[d]);
        }
        Edge.same("five, one FEE", Check.desk(Edge.bills(1, 5).replace("fee 0", "fee 200")).pays(0), 250);
        Edge.of("17", "-2 likewise.");
        ofDays("pays", PaymentRuns::pays, -2);
    }

    private static void cashRoomTight() {
        Edge.of("18", "CASH (II) behind a day by LAW.");
        PaymentRuns runs = Check.desk(THREE);
        for (int d = 0; d < 3; d++) {
            Edge.same("cash(" + d + ")", runs.cash(d), 10);
        }
        Edge.of("18", "-100,000: there is no such day, no DESK.");
        ofDays("cash", PaymentRuns::cash, -100000);
        Edge.of("19", "The least CASH behind any day, less the floor.");
        Edge.same("room(), nothing", runs.room(), 0);
        int[][] weeks = {{1, 0}, {0, 1}, {0, 4}, {5, 5}, {0, 5000}, {9999, 0}};
        for (int[] w : weeks) {
            PaymentRuns idle = Check.desk(Edge.desk(3, 0, 0, w[0], w[1], 0) + Edge.cash(7, 1));
            Edge.same("room(), cash " + w[0] + " floor " + w[1], idle.room(), w[0] - w[1]);
        }
        PaymentRuns falling = Check.desk(Edge.desk(2, 0, 0, 5, 0, 0) + Edge.supplier(0) + Edge.bill(0, 9, 0, 0, 6, 0)
                + Edge.cash(5, 1));
        Edge.same("room(), the last day", falling.room(), 1);
        Edge.of("19", "-100,000: there is no DESK.");
        withoutDesk("room()", PaymentRuns::room, -100000);
        Edge.of("20", "The first day with that CASH.");
        Edge.same("tight(), of all days", runs.tight(), 0);
        Edge.same("tight(), the last day", falling.tight(), 1);
        for (int came : new int[] {8, 9, 10}) {
            // CASH 5 behind day 0, 5 and what came less 9 behind day 1 and day 2.
            PaymentRuns two = Check.desk(Edge.desk(3, 0, 0, 5, 0, 0) + Edge.supplier(0) + Edge.bill(0, 9, 0, 0, 6, 0)
                    + Edge.cash(came, 1));
            Edge.same("tight(), " + came + " come", two.tight(), came < 9 ? 1 : 0);
            Edge.same("room(), " + came + " come", two.room(), Math.min(5, came - 4));
        }
        Edge.of("20", "-2: there is no DESK.");
        withoutDesk("tight()", PaymentRuns::tight, -2);
    }

    private static void feesAndOpen() {
        Edge.of("21", "FEES by LAW together.");
        Edge.same("two days", Check.desk(THREE).fees(), 2);
        Edge.same("one day", Check.desk(Edge.bills(1, 5).replace("fee 0", "fee 200")).fees(), 200);
        Edge.same("no day", Check.desk(Edge.bills(1, 0).replace("fee 0", "fee 200")).fees(), 0);
        Edge.of("21", "-2 likewise.");
        withoutDesk("fees()", PaymentRuns::fees, -2);
        Edge.of("22", "BILLS that are not paid by LAW, as bits.");
        Edge.same("one", Check.desk(THREE).open(), 2);
        Edge.same("none", Check.desk(Edge.bills(1, 5)).open(), 0);
        Edge.same("all", Check.desk(Edge.bills(1, 5).replace("cash 9999", "cash 9")).open(), 31);
        Edge.same("without a BILL", Check.desk(Edge.bills(1, 0)).open(), 0);
        Edge.of("22", "-2 likewise.");
        withoutDesk("open()", PaymentRuns::open, -2);
    }

    /** A bill that is paid on day 2 of 4. */
    private static PaymentRuns onTwo(int off, int by, int due, int late) {
        PaymentRuns runs = Check.desk(Edge.desk(4, 0, 0, 999, 0, 0) + Edge.supplier(0) + Edge.bill(0, 100, off, by, due, late));
        runs.fails(0);
        runs.fails(1);
        // What was asked ahead of it must not count.
        runs.closing(2);
        return runs;
    }

    private static void caughtAndLate() {
        Edge.of("23", "BILLS whose off is above 0 paid on by or ahead of it by LAW, as bits.");
        for (int by = 0; by < 7; by++) {
            for (int off : new int[] {0, 1, 20}) {
                Edge.same("caught(), off " + off + " by " + by, onTwo(off, by, 6, 0).caught(), off > 0 && by >= 2 ? 1 : 0);
            }
        }
        PaymentRuns open = Check.desk(Edge.desk(1, 0, 0, 5, 0, 0) + Edge.supplier(0) + Edge.bill(0, 100, 20, 6, 6, 0)
                + Edge.bill(0, 4, 20, 6, 6, 0));
        Edge.same("caught(), one that is not paid is not, one of nothing is", open.caught(), 2);
        Edge.same("caught(), none", Check.desk(Edge.bills(1, 5)).caught(), 0);
        Edge.same("caught(), five", Check.desk(Edge.bills(1, 5).replace("off 0", "off 1")).caught(), 31);
        Edge.of("23", "-2 likewise.");
        withoutDesk("caught()", PaymentRuns::caught, -2);
        Edge.of("24", "BILLS paid behind due by LAW, as bits.");
        for (int due = 0; due < 7; due++) {
            Edge.same("late(), due " + due, onTwo(0, 0, due, 9).late(), due < 2 ? 1 : 0);
            Edge.same("late(), for nothing, due " + due, onTwo(0, 0, due, 0).late(), due < 2 ? 1 : 0);
        }
        PaymentRuns never = onTwo(0, 0, 0, 9);
        never.fails(2);
        never.fails(3);
        Edge.same("late(), one that is not paid", never.late(), 0);
        PaymentRuns five = Check.desk(Edge.bills(1, 5).replace("due 6", "due 0"));
        five.fails(0);
        Edge.same("late(), five", five.late(), 31);
        Edge.of("24", "-2 likewise.");
        withoutDesk("late()", PaymentRuns::late, -2);
    }

    private static void savedLostTotal() {
        Edge.of("25", "What is saved by off, in all, by LAW.");
        for (int by = 1; by <= 3; by++) {
            Edge.same("saved(), by " + by, onTwo(7, by, 6, 0).saved(), by >= 2 ? 7 : 0);
        }
        Edge.same("saved(), one of two", Check.desk(THREE).saved(), 4);
        Edge.same("saved(), none is paid", Check.desk(Edge.desk(1, 0, 0, 5, 0, 0) + Edge.supplier(0)
                + Edge.bill(0, 100, 20, 6, 6, 0)).saved(), 0);
        Edge.same("saved(), the most", Check.desk(Edge.desk(1, 0, 0, 9999, 0, 0) + Edge.supplier(0)
                + Edge.bill(0, 3000, 20, 0, 0, 0).repeat(5) + Edge.cash(3000, 0)).saved(), 3000);
        Edge.of("25", "-2 likewise.");
        withoutDesk("saved()", PaymentRuns::saved, -2);
        Edge.of("26", "What is paid for being late (not paid ones, too), in all, by LAW.");
        for (int due = 0; due < 7; due++) {
            Edge.same("lost(), due " + due, onTwo(20, 6, due, 9).lost(), 9 * Math.max(0, 2 - due));
            PaymentRuns never = onTwo(20, 6, due, 9);
            never.fails(2);
            never.fails(3);
            Edge.same("lost(), not paid, due " + due, never.lost(), 9 * Math.max(0, 4 - due));
        }
        Edge.same("lost(), five", Check.desk(Edge.bills(1, 5).replace("cash 9999", "cash 0").replace("due 6 late 1", "due 0 late 99"))
                .lost(), 5 * 7 * 99);
        Edge.same("lost(), three", Check.desk(THREE).lost(), 2 + 3 * 2 + 4);
        Edge.of("26", "-2 likewise.");
        withoutDesk("lost()", PaymentRuns::lost, -2);
        Edge.of("27", "TOTAL (II) by LAW.");
        Edge.same("total()", Check.desk(THREE).total(), 38 + 506 + 64 + 2);
        Edge.of("27", "-2 likewise.");
        withoutDesk("total()", PaymentRuns::total, -2);
    }

    private static void early() {
        Edge.of("28", "How many days a BILL is paid ahead of due by LAW (below 0: behind it).");
        for (int due = 0; due < 7; due++) {
            Edge.same("early(0), due " + due, onTwo(0, 0, due, 0).early(0), due - 2);
        }
        PaymentRuns last = Check.desk(Edge.bills(1, 1).replace("due 6", "due 0"));
        Edge.same("early(0)", last.early(0), 0);
        for (int d = 0; d < 6; d++) {
            last.fails(d);
        }
        Edge.same("early(0), the most behind", last.early(0), -6);
        Edge.same("early(0), the most ahead", Check.desk(Edge.bills(1, 1)).early(0), 6);
        Edge.of("28", "-100: it is not paid;");
        Edge.same("early(1)", Check.desk(THREE).early(1), -100);
        last.fails(6);
        Edge.same("early(0)", last.early(0), -100);
        Edge.of("28", "-200: there is none such.");
        ofBills("early", PaymentRuns::early, -200);
        Edge.refused("early(3), of three that are not paid", () -> Edge.busy(THREE.replace("cash 65", "cash 1")),
                r -> r.early(3), -200);
    }

    private static void suppliers() {
        Edge.of("29", "What a SUPPLIER is paid by LAW, in all.");
        PaymentRuns runs = Check.desk(THREE);
        Edge.same("gets(0)", runs.gets(0), 38);
        Edge.same("gets(1), one that is not paid brings nothing", runs.gets(1), 64);
        Edge.same("gets(0), five, without FEES", Check.desk(Edge.bills(2, 5).replace("fee 0", "fee 9")).gets(0), 50);
        Edge.same("gets(1), of none", Check.desk(Edge.bills(2, 5)).gets(1), 0);
        Edge.of("29", "-2: there is none such.");
        for (int n = 0; n <= 4; n++) {
            int suppliers = n;
            Edge.range("gets, of " + n, () -> Edge.busy(Edge.bills(suppliers, 0)), n, PaymentRuns::gets, -2);
        }
        Edge.refused("gets(0) without a DESK", PaymentRuns::new, r -> r.gets(0), -2);
        Edge.of("30", "The SUPPLIER that is paid most, the first of several.");
        for (int[] g : new int[][] {{9, 10, 1}, {10, 10, 0}, {11, 10, 0}}) {
            PaymentRuns two = Check.desk(Edge.desk(1, 0, 0, 99, 0, 0) + Edge.supplier(0).repeat(3) + Edge.bill(1, 10, 0, 0, 0, 0)
                    + Edge.bill(0, g[0], 0, 0, 0, 0));
            Edge.same("dear(), " + g[0] + " beside 10", two.dear(), g[2]);
        }
        Edge.same("dear(), nothing is paid", Check.desk(Edge.bills(4, 5).replace("cash 9999", "cash 0")).dear(), 0);
        Edge.same("dear(), the last", Check.desk(Edge.bills(4, 1).replace("of 0", "of 3")).dear(), 3);
        Edge.of("30", "NONE: there are none;");
        Edge.same("without a SUPPLIER", Check.desk(Edge.bills(0, 0)).dear(), -1);
        Edge.same("with one", Check.desk(Edge.bills(1, 0)).dear(), 0);
        Edge.of("30", "-2: there is no DESK.");
        withoutDesk("dear()", PaymentRuns::dear, -2);
    }

    private static void busy() {
        Edge.of("31", "The day with most BILLS paid by LAW, the first of several, if any is.");
        Edge.same("busy(), one on each of two days", Check.desk(THREE).busy(), 1);
        // Day 0 has cash for so many of 10, the rest goes on day 1.
        for (int[] c : new int[][] {{10, 1}, {19, 1}, {20, 0}, {29, 0}, {30, 0}}) {
            PaymentRuns runs = Check.desk(Edge.desk(2, 0, 0, c[0], 0, 0) + Edge.supplier(0)
                    + Edge.bill(0, 10, 0, 0, 0, 0).repeat(c[0] == 10 || c[0] == 19 ? 3 : 4) + Edge.cash(40, 1));
            Edge.same("busy(), cash " + c[0], runs.busy(), c[1]);
        }
        Edge.of("31", "NONE: none is;");
        Edge.same("none is paid", Check.desk(Edge.bills(1, 5).replace("cash 9999", "cash 9")).busy(), -1);
        Edge.same("one is", Check.desk(Edge.bills(1, 5).replace("cash 9999", "cash 10")).busy(), 0);
        Edge.same("without a BILL", Check.desk(Edge.bills(1, 0)).busy(), -1);
        Edge.of("31", "-2 likewise.");
        withoutDesk("busy()", PaymentRuns::busy, -2);
    }
}
