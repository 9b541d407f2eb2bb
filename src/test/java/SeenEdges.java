import java.util.Arrays;
import java.util.function.Supplier;

/** Term VI and promises 47 to 52: each sentence at its bounds. */
final class SeenEdges {
    /** Bill 0 goes on day 0 by an off of 10 or more, else on day 1; bill 1 goes on day 0 by an off of 20 alone. */
    private static final String TWO = Edge.desk(2, 0, 0, 95, 0, 5) + Edge.supplier(5) + Edge.bill(0, 100, 15, 0, 1, 0)
            + Edge.bill(0, 10, 0, 0, 1, 0) + Edge.cash(500, 1);

    private SeenEdges() {
    }

    static void all() {
        terms();
        fits();
        String none = "-2: there is no such SLOT, BILL, a number is none such (asked last), not two each;";
        refusedSeen("47", "fits", PaymentRuns::fits, none, "-6: it has nothing.");
        low();
        refusedSeen("48", "low", PaymentRuns::low, "-2, -6 likewise.", "-2, -6 likewise.");
        high();
        refusedSeen("49", "high", PaymentRuns::high, "NONE, -2, -6 likewise.", "NONE, -2, -6 likewise.");
        ask();
        refusedSeen("50", "ask", PaymentRuns::ask, "-2, -6 likewise.", "-2, -6 likewise.");
        leaves();
        refusedSeen("51", "leaves", PaymentRuns::leaves, "-2, -6 likewise.", "-2, -6 likewise.");
        laws();
    }

    /** A call of a slot and a bill. */
    private interface AskedSeen {
        long of(PaymentRuns runs, int slot, int bill);
    }

    private static PaymentRuns seen(String text, long... row) {
        PaymentRuns runs = Check.desk(text);
        Check.row(runs, 0, row);
        return runs;
    }

    /** A desk on which bill 0 goes on day 0 by so much off or more, else on day 1. */
    private static String from(int off) {
        return Edge.desk(2, 0, 0, 100 - off, 0, 0) + Edge.supplier(0) + Edge.bill(0, 100, 7, 0, 1, 0) + Edge.cash(500, 1);
    }

    private static void terms() {
        Edge.of("VI", "SEEN: a SLOT's row, two numbers each: a BILL, its day by LAW (-1: not paid);");
        Edge.same("nothing is seen", seen(TWO).fits(0, 0), 21);
        Edge.same("one is seen", seen(TWO, 0, 0).fits(0, 0), 11);
        Edge.same("two are seen", seen(TWO, 0, 0, 1, 1).fits(0, 0), 10);
        Edge.same("they don't go together", seen(TWO, 0, 1, 1, 0).fits(0, 0), 0);
        String open = Edge.desk(1, 0, 0, 90, 0, 0) + Edge.supplier(0) + Edge.bill(0, 100, 7, 0, 0, 0);
        Edge.same("not paid", seen(open, 0, -1).fits(0, 0), 10);
        Edge.same("paid", seen(open, 0, 0).fits(0, 0), 11);
        long[] thirty = new long[60];
        for (int i = 0; i < 60; i += 2) {
            thirty[i] = i / 2 % 2;
            thirty[i + 1] = thirty[i];
        }
        Edge.same("thirty times, a row of 60", seen(TWO, thirty).fits(0, 0), 10);
        thirty[59] = 0;
        Edge.same("the thirtieth is another one", seen(TWO, thirty).fits(0, 0), 0);
        // Four bills for nothing ahead of the one that is seen.
        String last = from(10).replace("bill of", Edge.held(0, 1, 0, 0, 1, 0, 1).repeat(4) + "bill of");
        Edge.same("the last of five", seen(last, 4, 0).fits(0, 4), 11);
        Edge.same("the last of five, on day 1", seen(last, 4, 1).fits(0, 4), 10);
        Edge.of("VI", "off of one BILL was told otherwise (0 .. 20), all else (acts, too) as now.");
        for (int off = 0; off <= 21; off++) {
            Edge.same("day 0 from " + off + " off on", seen(from(off), 0, 0).fits(0, 0), 21 - off);
            Edge.same("day 1 ahead of " + off + " off", seen(from(off), 0, 1).fits(0, 0), off);
        }
        PaymentRuns acts = seen(TWO, 0, 1);
        acts.fails(0);
        Edge.same("day 0 CLOSED", acts.fits(0, 0), 21);
        PaymentRuns held = seen(TWO.replace("sum 100", "sum 101").replace("late 0;bill", "late 0 held 1;bill"), 0, 0);
        Edge.same("held", held.fits(0, 0), 11);
        held.frees(0);
        // 101 less 11 of off 11 is 90.
        Edge.same("released", held.fits(0, 0), 10);
        PaymentRuns other = seen(TWO, 0, 0);
        Edge.same("off of the other BILL", other.fits(0, 1), 21);
        Edge.same("off told stays", other.bill(0, 2) * 100 + other.bill(1, 2), 1500);
    }

    private static void fits() {
        Edge.of("47", "SEEN (VI): how many offs (0 .. 20) a BILL can have been told by a SLOT's row.");
        Edge.same("all", seen(TWO).fits(0, 0), 21);
        Edge.same("one", seen(TWO, 1, 0).fits(0, 0), 1);
        Edge.same("none", seen(TWO, 0, -1).fits(0, 0), 0);
        for (int slot = 0; slot < 4; slot++) {
            for (int width = 0; width < 4; width++) {
                PaymentRuns runs = Check.desk(TWO);
                runs.row(slot, width, 2);
                runs.write(slot, 0, 1);
                runs.write(slot, 1, 1);
                Edge.same("slot " + slot + " width " + width, runs.fits(slot, 0), 20);
                runs.write(slot, 1, -1);
                Edge.same("-1, slot " + slot + " width " + width, runs.fits(slot, 0), 0);
            }
        }
    }

    private static Supplier<PaymentRuns> busy(String text, long... row) {
        return () -> {
            PaymentRuns runs = Edge.busy(text);
            Check.row(runs, 3, row);
            return runs;
        };
    }

    private static final long[][] NONE_SUCH = {{2, 0}, {-1, 0}, {0, 2}, {0, -2}, {5, 0}, {1L << 32, 0}, {0, 1L << 32},
        {0, (1L << 32) - 1}, {Long.MIN_VALUE, 0}, {0, Long.MAX_VALUE}, {0, 0, 2, 0}, {0, 0, 1, 2}, {0}, {0, 0, 1},
        {0, 0, 0, 0, 0}};

    private static void refusedSeen(String promise, String call, AskedSeen asked, String none, String nothing) {
        Edge.of(promise, none);
        for (int slot : new int[] {Edge.MIN, -1, 4, 5, Edge.MAX}) {
            Edge.refused(call + "(" + slot + ", 0)", busy(TWO, 0, 0), runs -> asked.of(runs, slot, 0), -2);
        }
        for (int n = 0; n <= 5; n++) {
            int bills = n;
            Edge.range(call + "(3, #), of " + n, busy(Edge.bills(1, bills)), n, (runs, b) -> asked.of(runs, 3, b), -2);
        }
        for (long[] row : NONE_SUCH) {
            Edge.refused(call + " of " + Arrays.toString(row), busy(TWO, row), runs -> asked.of(runs, 3, 0), -2);
        }
        for (long[] row : new long[][] {{0, 0}, {1, 1}, {1, -1}, {0, -1, 1, 1}, {}}) {
            Edge.isTrue(call + " of " + Arrays.toString(row), asked.of(busy(TWO, row).get(), 3, 0) != -2);
        }
        Edge.refused(call + " without a DESK", () -> {
            PaymentRuns runs = new PaymentRuns();
            Check.row(runs, 3);
            return runs;
        }, runs -> asked.of(runs, 3, 0), -2);
        Edge.of(promise, nothing);
        Edge.refused(call + " of nothing", () -> Edge.busy(TWO), runs -> asked.of(runs, 3, 0), -6);
        Edge.refused(call + " of nothing, of no BILL", () -> Edge.busy(TWO), runs -> asked.of(runs, 3, 2), -2);
        Edge.refused(call + " of nothing, without a DESK", PaymentRuns::new, runs -> asked.of(runs, 3, 0), -2);
    }

    private static void low() {
        Edge.of("48", "The least of these.");
        for (int off = 0; off <= 20; off++) {
            Edge.same("day 0 from " + off + " off on", seen(from(off), 0, 0).low(0, 0), off);
        }
        Edge.same("day 1 ahead of 9", seen(from(9), 0, 1).low(0, 0), 0);
        Edge.of("48", "NONE: there is none;");
        Edge.same("day 0 from 21 off on", seen(from(21), 0, 0).low(0, 0), -1);
        Edge.same("day 1 ahead of 0", seen(from(0), 0, 1).low(0, 0), -1);
    }

    private static void high() {
        Edge.of("49", "The greatest.");
        for (int off = 1; off <= 21; off++) {
            Edge.same("day 1 ahead of " + off + " off", seen(from(off), 0, 1).high(0, 0), off - 1);
        }
        Edge.same("day 0 from 9", seen(from(9), 0, 0).high(0, 0), 20);
        Edge.of("49", "NONE, -2, -6 likewise.");
        Edge.same("day 1 ahead of 0", seen(from(0), 0, 1).high(0, 0), -1);
        Edge.same("day 0 from 21 off on", seen(from(21), 0, 0).high(0, 0), -1);
    }

    private static void ask() {
        Edge.of("50", "The BILL of which to know the day leaves fewest of these at worst, if fewer than now, the first of several.");
        // Of bill 0 it leaves 11 or 10, of bill 1 it leaves 1 or 20.
        Edge.same("ask, nothing is seen", seen(TWO).ask(0, 0), 0);
        Edge.same("ask, bill 0 is seen", seen(TWO, 0, 0).ask(0, 0), 1);
        // Bill 1 goes on day 0 if bill 0 does not, that is by less than 5 off: each tells as much as the other.
        String alike = Edge.desk(2, 0, 0, 95, 0, 0) + Edge.supplier(0) + Edge.bill(0, 100, 7, 0, 1, 0)
                + Edge.bill(0, 95, 0, 0, 0, 0) + Edge.cash(500, 1);
        Edge.same("ask, of two alike", seen(alike).ask(0, 0), 0);
        Edge.same("leaves, of two alike", seen(alike).leaves(0, 0), 16);
        String last = from(10).replace("bill of", Edge.held(0, 1, 0, 0, 1, 0, 1).repeat(4) + "bill of");
        Edge.same("ask, the last of five", seen(last).ask(0, 4), 4);
        for (int off : new int[] {1, 10, 20}) {
            Edge.same("ask, one fewer or more", seen(from(off)).ask(0, 0), 0);
        }
        Edge.of("50", "NONE: none;");
        Edge.same("ask, no day tells more", seen(TWO, 0, 1).ask(0, 0), -1);
        Edge.same("ask, one is left", seen(TWO, 1, 0).ask(0, 0), -1);
        Edge.same("ask, none is left", seen(TWO, 0, -1).ask(0, 0), -1);
        Edge.same("ask, always on day 0", seen(from(0)).ask(0, 0), -1);
        Edge.same("ask, always on day 1", seen(from(21)).ask(0, 0), -1);
    }

    private static void leaves() {
        Edge.of("51", "How many it leaves at worst (as now without).");
        Edge.same("leaves, nothing is seen", seen(TWO).leaves(0, 0), 11);
        Edge.same("leaves, bill 0 is seen", seen(TWO, 0, 0).leaves(0, 0), 10);
        Edge.same("leaves, no day tells more", seen(TWO, 0, 1).leaves(0, 0), 10);
        Edge.same("leaves, one is left", seen(TWO, 1, 0).leaves(0, 0), 1);
        Edge.same("leaves, none is left", seen(TWO, 0, -1).leaves(0, 0), 0);
        for (int off = 0; off <= 21; off++) {
            Edge.same("leaves, day 0 from " + off + " off on", seen(from(off)).leaves(0, 0), Math.max(off, 21 - off));
        }
        // Not paid is a day to know, too.
        String open = Edge.desk(1, 0, 0, 90, 0, 0) + Edge.supplier(0) + Edge.bill(0, 100, 7, 0, 0, 0);
        Edge.same("leaves, paid or not", seen(open).leaves(0, 0), 11);
        Edge.same("leaves, mostly not paid", seen(open.replace("cash 90", "cash 85")).leaves(0, 0), 15);
    }

    /** Cash for one of three bills: the first by law 0, the second by law 1, the third by laws 2 and 3. */
    private static final String LAWS = Edge.desk(1, 2, 0, 100, 0, 0) + Edge.supplier(0) + Edge.supplier(1)
            + Edge.bill(1, 100, 0, 0, 3, 9) + Edge.bill(0, 99, 9, 0, 1, 0) + Edge.bill(0, 98, 0, 0, 0, 2);

    private static void laws() {
        Edge.of("52", "LAWS (0 .. 3) by which it is as such a row tells, as bits.");
        Edge.same("bill 0", seen(LAWS, 0, 0).laws(0), 1);
        Edge.same("bill 1", seen(LAWS, 1, 0).laws(0), 2);
        Edge.same("bill 2", seen(LAWS, 2, 0).laws(0), 12);
        Edge.same("not bill 2", seen(LAWS, 2, -1).laws(0), 3);
        Edge.same("neither bill 0 nor bill 1", seen(LAWS, 0, -1, 1, -1).laws(0), 12);
        Edge.same("none is paid", seen(LAWS, 0, -1, 1, -1, 2, -1).laws(0), 0);
        Edge.same("nothing is seen", seen(LAWS).laws(0), 15);
        Edge.same("nothing is seen, without a BILL", seen(Desks.EMPTY).laws(0), 15);
        Edge.same("the law stays", seen(LAWS, 0, 0).count(1), 2);
        Edge.of("52", "-2 (BILL aside; no DESK), -6 likewise.");
        for (int slot : new int[] {Edge.MIN, -1, 4, 5, Edge.MAX}) {
            Edge.refused("laws(" + slot + ")", busy(TWO, 0, 0), runs -> runs.laws(slot), -2);
        }
        for (long[] row : NONE_SUCH) {
            Edge.refused("laws of " + Arrays.toString(row), busy(TWO, row), runs -> runs.laws(3), -2);
        }
        Edge.refused("laws of a BILL that is not there", busy(Desks.EMPTY, 0, 0), runs -> runs.laws(3), -2);
        Edge.refused("laws without a DESK", () -> {
            PaymentRuns runs = new PaymentRuns();
            Check.row(runs, 3);
            return runs;
        }, runs -> runs.laws(3), -2);
        Edge.refused("laws of nothing, without a DESK", PaymentRuns::new, runs -> runs.laws(3), -2);
        Edge.refused("laws of nothing", () -> Edge.busy(TWO), runs -> runs.laws(3), -6);
        Edge.refused("laws of nothing, without a BILL", () -> Edge.busy(Desks.EMPTY), runs -> runs.laws(3), -6);
    }
}
