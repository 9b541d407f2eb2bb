import java.util.function.Supplier;

/** SLOTS of term I, and promises 71 to 73: each sentence at its bounds. */
final class RowEdges {
    /** By a plan of one number this desk tells it: 100 and the day, 107 for -1. */
    private static final String READ = Edge.desk(7, 0, 0, 0, 0, 0) + Edge.supplier(0) + Edge.bill(0, 100, 0, 0, 0, 1);
    private static final int NOT_TOLD = 99;

    private RowEdges() {
    }

    static void all() {
        slots();
        askedAhead();
        row();
        write();
        paste();
        pasteRefused();
    }

    /** Number i of a slot's row, if it is -1 to 6; slot 3 is made anew for it. */
    private static int number(PaymentRuns runs, int slot, int width, int i) {
        runs.row(3, width, 1);
        int answer = runs.paste(slot, i, 3, 0, 1);
        int sums = runs.sums(3);
        return answer != 0 || sums < 0 ? NOT_TOLD : sums == 107 ? -1 : sums - 100;
    }

    private static void numbers(String what, PaymentRuns runs, int slot, int width, int... due) {
        Edge.same(what + ", how many", Edge.length(runs, slot), due.length);
        for (int i = 0; i < due.length; i++) {
            Edge.same(what + ", number " + i, number(runs, slot, width, i), due[i]);
        }
    }

    private static PaymentRuns rowOf(int width, int... numbers) {
        PaymentRuns runs = Check.desk(READ);
        runs.row(0, width, numbers.length);
        for (int i = 0; i < numbers.length; i++) {
            runs.write(0, i, numbers[i]);
        }
        return runs;
    }

    private static void slots() {
        Edge.of("SLOTS", "SLOTS 0 .. 3 have rows of numbers of 1, 2, 4 or 8 bytes (WIDTH 0 .. 3), at most 60, or nothing.");
        for (int slot = 0; slot < 4; slot++) {
            Edge.same("nothing in " + slot, new PaymentRuns().write(slot, 0, 0), -6);
            for (int width = 0; width < 4; width++) {
                PaymentRuns runs = new PaymentRuns();
                Edge.same("row(" + slot + ", " + width + ", 60)", runs.row(slot, width, 60), 0);
                Edge.same("60 numbers", Edge.length(runs, slot), 60);
                Edge.same("row(" + slot + ", " + width + ", 61)", runs.row(slot, width, 61), -2);
            }
        }
        Edge.same("no SLOT 4", new PaymentRuns().row(4, 0, 1), -2);
        Edge.same("no SLOT -1", new PaymentRuns().row(-1, 0, 1), -2);
    }

    private static void askedAhead() {
        Edge.of("SLOTS", "-2 (-100, -200, -100,000) is asked ahead of -5, -6.");
        Supplier<PaymentRuns> full = () -> {
            PaymentRuns runs = Check.desk(READ);
            for (int i = 0; i < 20; i++) {
                runs.fails(0);
            }
            return runs;
        };
        Edge.refused("frees(1) behind 20", full, r -> r.frees(1), -2);
        Edge.refused("frees(0) behind 20", full, r -> r.frees(0), -5);
        Edge.refused("fails(7) behind 20", full, r -> r.fails(7), -2);
        Edge.refused("fails(6) behind 20", full, r -> r.fails(6), -5);
        Edge.refused("ranks(1, 0) behind acts", full, r -> r.ranks(1, 0), -2);
        Edge.refused("ranks(0, 10) behind acts", full, r -> r.ranks(0, 10), -2);
        Edge.refused("ranks(0, 0) behind acts", full, r -> r.ranks(0, 0), -5);
        Edge.refused("undo() without a DESK", PaymentRuns::new, PaymentRuns::undo, -2);
        Edge.refused("lawful(0) without a DESK", PaymentRuns::new, r -> r.lawful(0), -2);
        Edge.refused("sums(0) without a DESK", PaymentRuns::new, r -> r.sums(0), -2);
        Edge.refused("falls(0) without a DESK", PaymentRuns::new, r -> r.falls(0), -2);
        Edge.refused("laws(0) without a DESK", PaymentRuns::new, r -> r.laws(0), -2);
        Edge.refused("lawful(0) of nothing", full, r -> r.lawful(0), -6);
        Edge.refused("fits(0, 1) of nothing", full, r -> r.fits(0, 1), -2);
        Edge.refused("fits(0, 0) of nothing", full, r -> r.fits(0, 0), -6);
        Edge.refused("leaves(0, 1) of nothing", full, r -> r.leaves(0, 1), -2);
        Edge.refused("back(3) of nothing", full, r -> r.back(3), -2);
        Edge.refused("back(2) of nothing", full, r -> r.back(2), -6);
        Edge.refused("paste of nothing to no SLOT", full, r -> r.paste(0, 0, 4, 0, 0), -2);
        Edge.refused("paste of no SLOT to nothing", full, r -> r.paste(-1, 0, 0, 0, 0), -2);
        Edge.refused("early(1), all CLOSED", () -> {
            PaymentRuns runs = Check.desk(READ);
            for (int d = 0; d < 7; d++) {
                runs.fails(d);
            }
            return runs;
        }, r -> r.early(1), -200);
    }

    private static void row() {
        Edge.of("71", "A SLOT (0 .. 3) has a row of n numbers of a WIDTH, all 0 (in place of another one): 0.");
        for (int n : new int[] {0, 1, 2, 59, 60}) {
            PaymentRuns runs = rowOf(1, 5, 5, 5);
            Edge.same("row(0, 1, " + n + ")", runs.row(0, 1, n), 0);
            numbers("a row of " + n, runs, 0, 1, new int[n]);
        }
        int[] fives = new int[60];
        java.util.Arrays.fill(fives, 5);
        PaymentRuns less = rowOf(2, fives);
        less.row(0, 2, 30);
        less.row(0, 2, 60);
        numbers("less, then more", less, 0, 2, new int[60]);
        PaymentRuns other = rowOf(0, 5);
        other.row(1, 3, 2);
        numbers("another SLOT stays", other, 0, 0, 5);
        Edge.same("count(12)", other.count(12), 3);
        PaymentRuns width = rowOf(0, 5);
        width.row(1, 0, 1);
        Edge.same("of one WIDTH", width.paste(0, 0, 1, 0, 1), 0);
        width.row(0, 3, 1);
        Edge.same("another WIDTH in its place", width.paste(0, 0, 1, 0, 1), -8);
        Edge.of("71", "-2: there is no such SLOT or WIDTH (0 .. 3), or n is above 60;");
        Supplier<PaymentRuns> made = () -> Edge.busy(Desks.PLAIN);
        Edge.range("row(#, 1, 2)", made, 4, (r, slot) -> r.row(slot, 1, 2), -2);
        Edge.range("row(0, #, 2)", made, 4, (r, w) -> r.row(0, w, 2), -2);
        for (int none : new int[] {Edge.MIN, -1, 4, Edge.MAX}) {
            Edge.refused("row(" + none + ", 1, -1)", made, r -> r.row(none, 1, -1), -2);
            Edge.refused("row(0, " + none + ", -1)", made, r -> r.row(0, none, -1), -2);
            Edge.refused("row(" + none + ", 1, 0)", made, r -> r.row(none, 1, 0), -2);
        }
        for (int n : new int[] {61, 62, Edge.MAX}) {
            Edge.refused("row(0, 1, " + n + ")", made, r -> r.row(0, 1, n), -2);
            Edge.refused("row(3, 1, " + n + ") of nothing", made, r -> r.row(3, 1, n), -2);
        }
        Edge.of("71", "-3, and the SLOT stays: n is below 0.");
        for (int n : new int[] {-1, -2, Edge.MIN}) {
            for (int slot = 0; slot < 4; slot++) {
                int asked = slot;
                Edge.refused("row(" + slot + ", 1, " + n + ")", made, r -> r.row(asked, 1, n), -3);
                Edge.refused("row(" + slot + ", 3, " + n + ")", made, r -> r.row(asked, 3, n), -3);
            }
            PaymentRuns stays = rowOf(1, 3, 4, 5);
            stays.row(0, 1, n);
            numbers("the SLOT stays", stays, 0, 1, 3, 4, 5);
        }
    }

    private static void write() {
        Edge.of("72", "Number i of the SLOT's row is v, cut to its WIDTH: 0.");
        for (int slot = 0; slot < 3; slot++) {
            PaymentRuns runs = Check.desk(READ);
            runs.row(slot, 1, 4);
            for (int i = 0; i < 4; i++) {
                Edge.same("write(" + slot + ", " + i + ", " + (i + 2) + ")", runs.write(slot, i, i + 2), 0);
            }
            runs.write(slot, 1, -1);
            numbers("written", runs, slot, 1, 2, -1, 4, 5);
        }
        for (int width = 0; width < 3; width++) {
            long step = 1L << (8 << width);
            for (long v : new long[] {6, step + 6, 5 * step + 6, 6 - step, Long.MIN_VALUE + 6}) {
                Edge.same("6 by " + v + " in WIDTH " + width, written(width, v), 6);
            }
            for (long v : new long[] {-1, step - 1, -1 - step, Long.MAX_VALUE}) {
                Edge.same("-1 by " + v + " in WIDTH " + width, written(width, v), -1);
            }
            for (long v : new long[] {7, step + 7, step - 2, -2, step / 2, step / 2 + 6, -step / 2}) {
                Edge.same("another one by " + v + " in WIDTH " + width, written(width, v), NOT_TOLD);
            }
            for (int other = 0; other < 4; other++) {
                Edge.same((step + 6) + " in WIDTH " + other, written(other, step + 6), other <= width ? 6 : NOT_TOLD);
            }
        }
        Edge.same("6 in WIDTH 3", written(3, 6), 6);
        Edge.same("-1 in WIDTH 3", written(3, -1), -1);
        for (long v : new long[] {7, -2, Long.MIN_VALUE, Long.MIN_VALUE + 6, Long.MAX_VALUE}) {
            Edge.same(v + " in WIDTH 3", written(3, v), NOT_TOLD);
        }
        Edge.of("72", "-2: there is no such SLOT;");
        for (int slot : new int[] {Edge.MIN, -1, 4, 5, Edge.MAX}) {
            Edge.refused("write(" + slot + ", 0, 1)", () -> rowOf(1, 3, 4), r -> r.write(slot, 0, 1), -2);
            Edge.refused("write(" + slot + ", 9, 1)", () -> rowOf(1, 3, 4), r -> r.write(slot, 9, 1), -2);
        }
        Edge.of("72", "-6: it has nothing;");
        for (int slot = 1; slot < 4; slot++) {
            for (int i : new int[] {-1, 0, 60}) {
                int asked = slot;
                Edge.refused("write(" + slot + ", " + i + ", 1)", () -> rowOf(1, 3, 4), r -> r.write(asked, i, 1), -6);
            }
        }
        Edge.of("72", "-7: there is no such number.");
        for (int n : new int[] {0, 1, 2, 59, 60}) {
            for (int i : new int[] {Edge.MIN, -1, n, n + 1, 60, Edge.MAX}) {
                Edge.refused("write(0, " + i + ", 1) of " + n, () -> rowOf(1, new int[n]), r -> r.write(0, i, 1), -7);
            }
            Edge.same("write of the last of " + n, rowOf(1, new int[n]).write(0, n - 1, 1), n == 0 ? -7 : 0);
        }
        PaymentRuns stays = rowOf(1, 3, 4);
        stays.write(0, 2, 6);
        stays.write(0, -1, 6);
        numbers("a refused number", stays, 0, 1, 3, 4);
    }

    /** What is read of a number that was written to a row of a width. */
    private static int written(int width, long v) {
        PaymentRuns runs = Check.desk(READ);
        runs.row(0, width, 1);
        Edge.same("write", runs.write(0, 0, v), 0);
        return number(runs, 0, width, 0);
    }

    private static void paste() {
        Edge.of("73", "So many numbers of a SLOT's row, from one on, are put to another one's (or its own), from one on, as they were: 0.");
        for (int width = 0; width < 4; width++) {
            PaymentRuns runs = rowOf(width, 1, 2, 3, 4, 5);
            runs.row(1, width, 4);
            Edge.same("paste(0, 1, 1, 0, 3)", runs.paste(0, 1, 1, 0, 3), 0);
            numbers("put, WIDTH " + width, runs, 1, width, 2, 3, 4, 0);
            numbers("they stay where they were", runs, 0, width, 1, 2, 3, 4, 5);
            Edge.same("paste(0, 1, 1, 0, 4), all it has", runs.paste(0, 1, 1, 0, 4), 0);
            numbers("put to all", runs, 1, width, 2, 3, 4, 5);
            Edge.same("paste(0, 4, 1, 3, 1), the last", runs.paste(0, 4, 1, 3, 1), 0);
            Edge.same("paste(0, 0, 1, 0, 1), the first", runs.paste(0, 0, 1, 0, 1), 0);
            numbers("put singly", runs, 1, width, 1, 3, 4, 5);
        }
        PaymentRuns on = rowOf(1, 1, 2, 3, 4, 5);
        Edge.same("paste(0, 0, 0, 1, 4), its own, further on", on.paste(0, 0, 0, 1, 4), 0);
        numbers("as they were", on, 0, 1, 1, 1, 2, 3, 4);
        PaymentRuns back = rowOf(1, 1, 2, 3, 4, 5);
        Edge.same("paste(0, 1, 0, 0, 4), its own, back", back.paste(0, 1, 0, 0, 4), 0);
        numbers("as they were", back, 0, 1, 2, 3, 4, 5, 5);
        PaymentRuns same = rowOf(1, 1, 2, 3);
        Edge.same("paste(0, 0, 0, 0, 3), to itself", same.paste(0, 0, 0, 0, 3), 0);
        numbers("as it was", same, 0, 1, 1, 2, 3);
        for (int[] none : new int[][] {{0, 0}, {0, 3}, {3, 0}, {3, 3}}) {
            PaymentRuns runs = rowOf(1, 1, 2, 3);
            Edge.same("paste of no numbers", runs.paste(0, none[0], 0, none[1], 0), 0);
            numbers("as it was", runs, 0, 1, 1, 2, 3);
        }
        PaymentRuns empty = rowOf(1);
        Edge.same("paste of a row of no numbers", empty.paste(0, 0, 0, 0, 0), 0);
        PaymentRuns most = rowOf(3, new int[60]);
        most.row(1, 3, 60);
        most.write(0, 59, 6);
        Edge.same("paste(0, 0, 1, 0, 60), all", most.paste(0, 0, 1, 0, 60), 0);
        Edge.same("the last of 60", number(most, 1, 3, 59), 6);
    }

    /** Rows of 3 numbers in slot 0, of 2 in slot 1, of another width in slot 2, nothing in slot 3. */
    private static PaymentRuns rows() {
        PaymentRuns runs = rowOf(1, 1, 2, 3);
        runs.row(1, 1, 2);
        runs.write(1, 0, 5);
        runs.write(1, 1, 6);
        runs.row(2, 2, 3);
        return runs;
    }

    private static void pasteRefused() {
        Supplier<PaymentRuns> made = RowEdges::rows;
        Edge.of("73", "-2: there is no such SLOT;");
        for (int none : new int[] {Edge.MIN, -1, 4, 5, Edge.MAX}) {
            Edge.refused("paste from " + none, made, r -> r.paste(none, 0, 0, 0, 1), -2);
            Edge.refused("paste to " + none, made, r -> r.paste(0, 0, none, 0, 1), -2);
            Edge.refused("paste from nothing to " + none, made, r -> r.paste(3, -1, none, 0, -1), -2);
            Edge.refused("paste from " + none + " to nothing", made, r -> r.paste(none, -1, 3, 0, -1), -2);
        }
        Edge.of("73", "-6: one has nothing;");
        for (int other = 0; other < 4; other++) {
            int slot = other;
            Edge.refused("paste from nothing to " + other, made, r -> r.paste(3, 0, slot, 0, 1), -6);
            Edge.refused("paste from " + other + " to nothing", made, r -> r.paste(slot, 0, 3, 0, 1), -6);
            Edge.refused("paste from nothing to " + other + ", below 0", made, r -> r.paste(3, -1, slot, -1, -1), -6);
            Edge.refused("paste from " + other + " to nothing, none", made, r -> r.paste(slot, 0, 3, 0, 0), -6);
        }
        Edge.of("73", "-8: they are not of one WIDTH;");
        for (int width = 0; width < 4; width++) {
            for (int other = 0; other < 4; other++) {
                PaymentRuns runs = new PaymentRuns();
                runs.row(0, width, 3);
                runs.row(1, other, 3);
                Edge.same("paste from " + width + " to " + other, runs.paste(0, 0, 1, 0, 3), width == other ? 0 : -8);
                Edge.same("of no numbers", runs.paste(0, 0, 1, 0, 0), width == other ? 0 : -8);
                Edge.same("beyond, from " + width + " to " + other, runs.paste(0, 0, 1, 0, 4), width == other ? -7 : -8);
                Edge.same("below 0, from " + width + " to " + other, runs.paste(0, -1, 1, 0, 1), width == other ? -7 : -8);
            }
        }
        Edge.refused("paste of another WIDTH", made, r -> r.paste(0, 0, 2, 0, 1), -8);
        Edge.refused("paste to another WIDTH", made, r -> r.paste(2, 0, 0, 0, 1), -8);
        Edge.of("73", "-7, and nothing happens: some are beyond their rows, or a place or n is below 0.");
        int[][] beyond = {{0, 0, 3}, {2, 0, 2}, {3, 0, 1}, {0, 1, 2}, {0, 2, 1}, {-1, 0, 1}, {0, -1, 1}, {0, 0, -1}, {-1, 0, 0},
            {0, -1, 0}, {4, 0, 0}, {0, 3, 0}, {Edge.MIN, 0, 1}, {0, Edge.MIN, 1}, {0, 0, Edge.MIN}, {Edge.MAX, 0, 1}, {0, Edge.MAX, 1},
            {0, 0, Edge.MAX}, {1, 0, Edge.MAX}, {0, 1, Edge.MAX}, {Edge.MAX, Edge.MAX, Edge.MAX}, {Edge.MAX, 0, Edge.MAX},
            {Edge.MIN, Edge.MIN, Edge.MIN}, {Edge.MAX, 0, Edge.MIN}, {-1, 0, 2}, {2, 0, -1}, {0, 2, -1}, {-1, -1, 3}};
        for (int[] b : beyond) {
            String call = "paste(0, " + b[0] + ", 1, " + b[1] + ", " + b[2] + ")";
            Edge.refused(call, made, r -> r.paste(0, b[0], 1, b[1], b[2]), -7);
            PaymentRuns runs = rows();
            runs.paste(0, b[0], 1, b[1], b[2]);
            numbers(call + " leaves", runs, 1, 1, 5, 6);
        }
        int[][] own = {{0, 0, 4}, {1, 0, 3}, {0, 1, 3}, {3, 0, 1}, {0, 3, 1}, {-1, 0, 1}, {0, -1, 1}, {0, 0, -1}, {4, 4, 0}};
        for (int[] b : own) {
            PaymentRuns runs = rows();
            String call = "paste(0, " + b[0] + ", 0, " + b[1] + ", " + b[2] + ")";
            Edge.same(call, runs.paste(0, b[0], 0, b[1], b[2]), -7);
            numbers(call + " leaves", runs, 0, 1, 1, 2, 3);
        }
        int[][] inside = {{0, 0, 2}, {1, 0, 2}, {2, 0, 1}, {2, 1, 1}, {0, 1, 1}, {3, 2, 0}, {3, 0, 0}, {0, 2, 0}};
        for (int[] b : inside) {
            Edge.same("paste(0, " + b[0] + ", 1, " + b[1] + ", " + b[2] + ")", rows().paste(0, b[0], 1, b[1], b[2]), 0);
        }
    }
}
