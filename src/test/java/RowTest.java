/** Promises 71 to 73: row, write, paste. A row is read back as a plan: a number is told by the bounds it meets. */
public final class RowTest {
    private static final int MIN = Integer.MIN_VALUE;
    private static final int MAX = Integer.MAX_VALUE;

    public static void main(String[] args) {
        rows();
        widths();
        paste();
        pasteRefused();
        Check.end();
    }

    private static void rows() {
        PaymentRuns runs = Check.desk(Desks.PLAIN);
        for (int none : new int[] {-1, 4, MIN, MAX}) {
            Check.same("row(" + none + ", 0, 2)", runs.row(none, 0, 2), -2);
            Check.same("row(0, " + none + ", 2)", runs.row(0, none, 2), -2);
            Check.same("row(" + none + ", 0, -1)", runs.row(none, 0, -1), -2);
            Check.same("row(0, " + none + ", -1)", runs.row(0, none, -1), -2);
            Check.same("write(" + none + ", 0, 0)", runs.write(none, 0, 0), -2);
        }
        Check.same("row(0, 0, 61)", runs.row(0, 0, 61), -2);
        Check.same("row(0, 0, maximum)", runs.row(0, 0, MAX), -2);
        Check.same("row(0, 0, -1)", runs.row(0, 0, -1), -3);
        Check.same("row(0, 0, minimum)", runs.row(0, 0, MIN), -3);
        Check.same("count(12)", runs.count(12), 0);
        Check.same("write(0, 0, 0) of nothing", runs.write(0, 0, 0), -6);
        Check.same("write(0, -1, 0) of nothing", runs.write(0, -1, 0), -6);
        Check.same("row(0, 3, 60)", runs.row(0, 3, 60), 0);
        Check.same("write(0, 59, 1)", runs.write(0, 59, 1), 0);
        for (int none : new int[] {-1, 60, MIN, MAX}) {
            Check.same("write(0, " + none + ", 1)", runs.write(0, none, 1), -7);
        }
        Check.same("row(0, 0, 0)", runs.row(0, 0, 0), 0);
        Check.same("count(12)", runs.count(12), 1);
        Check.same("write(0, 0, 1), a row of none", runs.write(0, 0, 1), -7);
        Check.row(runs, 0, 1, 1);
        Check.same("sums(0)", runs.sums(0), 90);
        Check.same("row(0, 3, -1)", runs.row(0, 3, -1), -3);
        Check.same("the slot stays", runs.sums(0), 90);
        Check.same("row(0, 4, 2)", runs.row(0, 4, 2), -2);
        Check.same("the slot stays", runs.sums(0), 90);
        runs.row(0, 3, 2);
        Check.same("a new row is of noughts", runs.sums(0), 85);
    }

    /** Cut to its width, -1 is a plan's number and 2 to a power is nought, or none such. */
    private static void widths() {
        PaymentRuns runs = Check.desk(Desks.PLAIN);
        for (int width = 0; width < 4; width++) {
            int bits = 8 << width;
            runs.row(0, width, 2);
            for (int shift = 8; shift < 64; shift *= 2) {
                runs.write(0, 0, (1L << shift) + 1);
                Check.same("1 beyond " + shift + " bits in " + bits, runs.sums(0), bits <= shift ? 92 : -2);
            }
            runs.write(0, 0, -1);
            Check.same("-1 in " + bits, runs.sums(0), 56 + 40);
            runs.write(0, 0, bits < 64 ? (1L << bits) - 1 : -1);
            Check.same("all ones in " + bits, runs.sums(0), 56 + 40);
            runs.write(0, 0, 1L << bits - 1);
            Check.same("the least number in " + bits, runs.sums(0), -2);
            runs.write(0, 0, 3);
            Check.same("3 in " + bits, runs.sums(0), -2);
            runs.write(0, 0, 2);
            Check.same("2 in " + bits, runs.sums(0), 53 + 38 + 4);
        }
    }

    private static void paste() {
        PaymentRuns runs = Check.desk(Desks.PLAIN);
        Check.row(runs, 0, 0, 1, 2, -1);
        Check.row(runs, 3, 9, 9);
        Check.same("paste(0, 1, 3, 0, 2)", runs.paste(0, 1, 3, 0, 2), 0);
        Check.same("1, 2", runs.sums(3), 50 + 47 + 4);
        Check.same("paste(0, 3, 3, 1, 1)", runs.paste(0, 3, 3, 1, 1), 0);
        Check.same("1, -1", runs.sums(3), 52 + 54);
        Check.same("paste(0, 4, 3, 2, 0)", runs.paste(0, 4, 3, 2, 0), 0);
        Check.same("nothing happens", runs.sums(3), 52 + 54);
        // Its own, one further on and back: as they were, 0 0 1 2 and 0 1 2 2.
        Check.same("paste(0, 0, 0, 1, 3)", runs.paste(0, 0, 0, 1, 3), 0);
        for (int i = 0; i < 4; i++) {
            Check.same("number " + i, numberOf(runs, i), new int[] {0, 0, 1, 2}[i]);
        }
        Check.same("paste(0, 1, 0, 0, 3)", runs.paste(0, 1, 0, 0, 3), 0);
        for (int i = 0; i < 4; i++) {
            Check.same("number " + i, numberOf(runs, i), new int[] {0, 1, 2, 2}[i]);
        }
        PaymentRuns narrow = Check.desk(Desks.PLAIN);
        narrow.row(0, 0, 2);
        narrow.row(1, 0, 2);
        narrow.write(0, 0, -1);
        Check.same("bytes", narrow.paste(0, 0, 1, 1, 1), 0);
        Check.same("0, -1", narrow.sums(1), 45 + 2 + 54);
    }

    /** The day that number i of slot 0 tells of bill 0, bill 1 not paid. */
    private static int numberOf(PaymentRuns runs, int i) {
        Check.row(runs, 2, -1, -1);
        runs.paste(0, i, 2, 0, 1);
        switch (runs.sums(2) - 54) {
            case 47: return 0;
            case 52: return 1;
            case 55: return 2;
            case 56: return -1;
            default: return 99;
        }
    }

    private static void pasteRefused() {
        PaymentRuns runs = Check.desk(Desks.PLAIN);
        Check.row(runs, 0, 1, 1, 1);
        Check.row(runs, 1, 0, 0);
        runs.row(2, 0, 2);
        for (int none : new int[] {-1, 4, MIN, MAX}) {
            Check.same("paste(" + none + ", 0, 0, 0, 1)", runs.paste(none, 0, 0, 0, 1), -2);
            Check.same("paste(0, 0, " + none + ", 0, 1)", runs.paste(0, 0, none, 0, 1), -2);
            Check.same("paste(3, 0, " + none + ", 0, 1)", runs.paste(3, 0, none, 0, 1), -2);
            Check.same("paste(0, " + none + ", 1, 0, 1)", runs.paste(0, none, 1, 0, 1), -7);
            Check.same("paste(0, 0, 1, " + none + ", 1)", runs.paste(0, 0, 1, none, 1), -7);
            Check.same("paste(0, 0, 1, 0, " + none + ")", runs.paste(0, 0, 1, 0, none), -7);
        }
        Check.same("paste(3, 0, 0, 0, 1)", runs.paste(3, 0, 0, 0, 1), -6);
        Check.same("paste(0, 0, 3, 0, 1)", runs.paste(0, 0, 3, 0, 1), -6);
        Check.same("paste(3, -1, 3, 0, 1)", runs.paste(3, -1, 3, 0, 1), -6);
        Check.same("paste(0, 0, 2, 0, 1)", runs.paste(0, 0, 2, 0, 1), -8);
        Check.same("paste(0, -1, 2, 0, 1)", runs.paste(0, -1, 2, 0, 1), -8);
        Check.same("paste(0, 0, 1, 0, 3)", runs.paste(0, 0, 1, 0, 3), -7);
        Check.same("paste(0, 2, 1, 0, 2)", runs.paste(0, 2, 1, 0, 2), -7);
        Check.same("paste(0, 0, 1, 1, 2)", runs.paste(0, 0, 1, 1, 2), -7);
        Check.same("paste(0, maximum, 1, 0, maximum)", runs.paste(0, MAX, 1, 0, MAX), -7);
        Check.same("nothing happens", runs.sums(1), 85);
    }
}
