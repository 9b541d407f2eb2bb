/** Term IX and promises 59, 60, 65 and 66: each sentence at its bounds. */
final class ChanceEdges {
    /** The draws of some seeds, worked out apart from the class. */
    private static final int[] SEEDS = {0, 1, 1999999999, 2000000000};
    private static final int[][] DRAWS = {{0, 8, 8, 7, 8, 7}, {8, 8, 3, 5, 1, 7}, {3, 3, 6, 9, 1, 1}, {4, 3, 1, 7, 6, 2}};

    /** The first draw of seeds 0 to 19, and of 2,000,000,000 to 2,000,000,019. */
    private static final int[] FIRST = {0, 8, 8, 7, 7, 5, 6, 4, 4, 2, 3, 1, 1, 0, 0, 8, 9, 7, 7, 6};
    private static final int[] LAST = {4, 2, 2, 1, 1, 9, 0, 8, 8, 6, 7, 5, 5, 4, 4, 2, 3, 1, 1, 0};

    private ChanceEdges() {
    }

    static void all() {
        odds();
        draws();
        chance();
        mean();
        drawn();
        luck();
    }

    /** A bill of 10, 13 if it is not paid, and cash that comes by chance: so many lines of it, of which so many are needed. */
    private static PaymentRuns chances(int odds, int lines, int needed) {
        return Check.desk(text(odds, lines, needed));
    }

    private static String text(int odds, int lines, int needed) {
        return Edge.desk(1, 0, odds, 10 - needed, 0, 0) + Edge.supplier(0) + Edge.bill(0, 10, 0, 0, 0, 3)
                + Edge.cash(1, 0).repeat(lines);
    }

    private static void fractions(String what, PaymentRuns runs, long[] chance, long[] mean) {
        Edge.same(what + ", chance above", runs.chance(0, 0), chance[0]);
        Edge.same(what + ", chance below", runs.chance(0, 1), chance[1]);
        Edge.same(what + ", mean above", runs.mean(0), mean[0]);
        Edge.same(what + ", mean below", runs.mean(1), mean[1]);
    }

    private static void odds() {
        Edge.of("IX", "CHANCE: each LINE of cash comes with odds in ten, by itself.");
        long[][] chances = {{0, 1}, {1, 10}, {1, 5}, {3, 10}, {2, 5}, {1, 2}, {3, 5}, {7, 10}, {4, 5}, {9, 10}, {1, 1}};
        long[][] means = {{13, 1}, {127, 10}, {62, 5}, {121, 10}, {59, 5}, {23, 2}, {56, 5}, {109, 10}, {53, 5}, {103, 10}, {10, 1}};
        for (int odds = 0; odds <= 10; odds++) {
            fractions("one, odds " + odds, chances(odds, 1, 1), chances[odds], means[odds]);
        }
        fractions("both of two", chances(3, 2, 2), new long[] {9, 100}, new long[] {1273, 100});
        fractions("one of two", chances(3, 2, 1), new long[] {51, 100}, new long[] {1147, 100});
        fractions("all of six", chances(9, 6, 6), new long[] {531441, 1000000}, new long[] {11405677, 1000000});
        fractions("one of six", chances(1, 6, 1), new long[] {468559, 1000000}, new long[] {11594323, 1000000});
        fractions("six of none", chances(5, 0, 6), new long[] {0, 1}, new long[] {13, 1});
        fractions("none of none", chances(5, 0, 0), new long[] {1, 1}, new long[] {10, 1});
        fractions("more than there are", chances(5, 5, 6), new long[] {0, 1}, new long[] {13, 1});
        Edge.same("what is told comes in all the same", chances(0, 1, 1).comes(0), 1);
        Edge.same("by LAW all LINES come", chances(0, 6, 6).total(), 10);
        Edge.of("IX", "FRACTIONS are told in lowest terms (0 / 1).");
        fractions("never", chances(0, 6, 1), new long[] {0, 1}, new long[] {13, 1});
        fractions("ever", chances(10, 6, 6), new long[] {1, 1}, new long[] {10, 1});
        fractions("half of two", chances(5, 2, 2), new long[] {1, 4}, new long[] {49, 4});
        PaymentRuns nothing = Check.desk(Edge.desk(1, 0, 7, 0, 0, 0) + Edge.cash(5, 0).repeat(6));
        Edge.same("mean of nothing, above", nothing.mean(0), 0);
        Edge.same("mean of nothing, below", nothing.mean(1), 1);
    }

    private static int bits(int[] draws, int lines, int odds) {
        int bits = 0;
        for (int i = 0; i < lines; i++) {
            bits |= draws[i] < odds ? 1 << i : 0;
        }
        return bits;
    }

    private static void draws() {
        Edge.of("IX", "DRAWS: x becomes (1103515245 x + 12345) modulo 2,147,483,648 (at first it is the seed);");
        for (int s = 0; s < SEEDS.length; s++) {
            Edge.same("seed " + SEEDS[s], chances(5, 6, 1).drawn(SEEDS[s], 0), bits(DRAWS[s], 6, 5));
        }
        Edge.of("IX", "a draw: x / 65536, cut, modulo 10.");
        for (int seed = 0; seed < 20; seed++) {
            int draw = FIRST[seed];
            Edge.same("seed " + seed + ", odds at its draw", chances(draw, 1, 1).drawn(seed, 0), 0);
            Edge.same("seed " + seed + ", odds above it", chances(draw + 1, 1, 1).drawn(seed, 0), 1);
        }
        Edge.of("IX", "Weeks drawn: LINE of cash by LINE of cash a draw: below odds it comes.");
        for (int s = 0; s < SEEDS.length; s++) {
            for (int odds = 0; odds <= 10; odds++) {
                for (int lines = 0; lines <= 6; lines++) {
                    Edge.same("seed " + SEEDS[s] + ", odds " + odds + ", lines " + lines,
                            chances(odds, lines, 1).drawn(SEEDS[s], 0), bits(DRAWS[s], lines, odds));
                }
            }
        }
    }

    private static void chance() {
        Edge.of("59", "CHANCE (IX): that a BILL is paid by LAW, above (what 0), below (1).");
        PaymentRuns two = Check.desk(text(3, 2, 2) + Edge.bill(0, 1, 0, 0, 0, 0));
        // Bill 0 with both; bill 1 with 8 to 9 in any case, with 10 not.
        Edge.same("chance(0, 0)", two.chance(0, 0), 9);
        Edge.same("chance(0, 1)", two.chance(0, 1), 100);
        Edge.same("chance(1, 0)", two.chance(1, 0), 91);
        Edge.same("chance(1, 1)", two.chance(1, 1), 100);
        two.fails(0);
        Edge.same("chance(0, 0), CLOSED", two.chance(0, 0), 0);
        Edge.same("chance(0, 1), CLOSED", two.chance(0, 1), 1);
        Edge.of("59", "-2: there are none such.");
        for (int n = 0; n <= 5; n++) {
            int bills = n;
            Edge.range("chance(#, 0), of " + n, () -> Edge.busy(Edge.bills(1, bills)), n, (runs, b) -> runs.chance(b, 0), -2);
            Edge.range("chance(#, 1), of " + n, () -> Edge.busy(Edge.bills(1, bills)), n, (runs, b) -> runs.chance(b, 1), -2);
        }
        Edge.range("chance(0, #)", () -> Edge.busy(Edge.bills(1, 1)), 2, (runs, what) -> runs.chance(0, what), -2);
        Edge.refused("chance(0, 0) without a DESK", PaymentRuns::new, runs -> runs.chance(0, 0), -2);
    }

    private static void mean() {
        Edge.of("60", "The mean of TOTAL by LAW, above, below.");
        Edge.same("above", chances(3, 2, 2).mean(0), 1273);
        Edge.same("below", chances(3, 2, 2).mean(1), 100);
        // 12,000 more of bills that are never paid: beyond an int in lowest terms.
        PaymentRuns great = Check.desk(text(9, 6, 6) + Edge.bill(0, 3000, 0, 0, 0, 0).repeat(4));
        Edge.same("above, great", great.mean(0), 12011405677L);
        Edge.same("below, great", great.mean(1), 1000000);
        Edge.of("60", "-2: there are none such, no DESK.");
        Edge.range("mean", () -> Edge.busy(Desks.PLAIN), 2, PaymentRuns::mean, -2);
        Edge.range("mean, without a BILL", () -> Edge.busy(Desks.EMPTY), 2, PaymentRuns::mean, -2);
        for (int what : new int[] {-1, 0, 1, 2}) {
            Edge.refused("mean(" + what + ") without a DESK", PaymentRuns::new, runs -> runs.mean(what), -2);
        }
    }

    private static void drawn() {
        Edge.of("65", "Weeks drawn (IX) from a seed (0 .. 2,000,000,000), what 0: LINES of cash (as they stand) that come, as bits,"
                + " 1: TOTAL by LAW then.");
        for (int seed = 0; seed < 20; seed++) {
            Edge.same("drawn(" + seed + ", 0)", chances(5, 1, 1).drawn(seed, 0), FIRST[seed] < 5 ? 1 : 0);
            Edge.same("drawn(" + seed + ", 1)", chances(5, 1, 1).drawn(seed, 1), FIRST[seed] < 5 ? 10 : 13);
        }
        for (int s = 0; s < SEEDS.length; s++) {
            int come = Integer.bitCount(bits(DRAWS[s], 6, 5));
            for (int needed = 1; needed <= 6; needed++) {
                Edge.same("drawn(" + SEEDS[s] + ", 1), of six " + needed, chances(5, 6, needed).drawn(SEEDS[s], 1),
                        come >= needed ? 10 : 13);
            }
        }
        // Lines stand by sums 1, 2, 4: which of them come, TOTAL tells.
        PaymentRuns stand = Check.desk(Edge.desk(1, 0, 5, 0, 0, 0) + Edge.supplier(0) + Edge.bill(0, 4, 0, 0, 0, 3)
                + Edge.cash(1, 0) + Edge.cash(2, 0) + Edge.cash(4, 0));
        Edge.same("drawn(1, 0), the third", stand.drawn(1, 0), 4);
        Edge.same("drawn(1, 1), the third", stand.drawn(1, 1), 4);
        Edge.same("drawn(0, 0), the first", stand.drawn(0, 0), 1);
        Edge.same("drawn(0, 1), the first", stand.drawn(0, 1), 7);
        Edge.same("without LINES", chances(5, 0, 0).drawn(2000000000, 0), 0);
        Edge.of("65", "-2: there are none such, no DESK.");
        for (int seed : new int[] {Edge.MIN, -1, 2000000001, Edge.MAX}) {
            for (int what = 0; what < 2; what++) {
                int asked = what;
                Edge.refused("drawn(" + seed + ", " + what + ")", () -> Edge.busy(text(5, 6, 1)), runs -> runs.drawn(seed, asked), -2);
            }
        }
        for (int seed : new int[] {0, 1, 1999999999, 2000000000}) {
            Edge.isTrue("drawn(" + seed + ", 0) is answered", chances(5, 6, 1).drawn(seed, 0) >= 0);
            Edge.isTrue("drawn(" + seed + ", 1) is answered", chances(5, 6, 1).drawn(seed, 1) >= 10);
        }
        Edge.range("drawn(0, #)", () -> Edge.busy(text(5, 6, 1)), 2, (runs, what) -> runs.drawn(0, what), -2);
        for (int what = -1; what <= 2; what++) {
            int asked = what;
            Edge.refused("drawn(0, " + what + ") without a DESK", PaymentRuns::new, runs -> runs.drawn(0, asked), -2);
        }
    }

    private static void luck() {
        Edge.of("66", "Of n (1 .. 20) such from seeds, the seed and 1, .., in how many a BILL is paid.");
        PaymentRuns runs = Check.desk(text(5, 1, 1) + Edge.bill(0, 3000, 0, 0, 0, 0));
        int first = 0;
        int last = 0;
        for (int n = 1; n <= 20; n++) {
            first += FIRST[n - 1] < 5 ? 1 : 0;
            last += LAST[n - 1] < 5 ? 1 : 0;
            Edge.same("luck(0, " + n + ", 0)", runs.luck(0, n, 0), first);
            Edge.same("luck(2000000000, " + n + ", 0)", runs.luck(2000000000, n, 0), last);
            Edge.same("luck(0, " + n + ", 1), never", runs.luck(0, n, 1), 0);
        }
        Edge.same("all in all", first * 100 + last, 913);
        Edge.same("luck(1999999999, 2, 0)", runs.luck(1999999999, 2, 0), 2);
        Edge.same("odds 10, ever", chances(10, 1, 1).luck(7, 20, 0), 20);
        Edge.same("odds 0, never", chances(0, 1, 1).luck(7, 20, 0), 0);
        Edge.of("66", "-2: there are none such.");
        for (int n : new int[] {Edge.MIN, -1, 0, 21, 22, Edge.MAX}) {
            Edge.refused("luck(0, " + n + ", 0)", () -> Edge.busy(text(5, 6, 1)), r -> r.luck(0, n, 0), -2);
        }
        for (int seed : new int[] {Edge.MIN, -1, 2000000001, Edge.MAX}) {
            Edge.refused("luck(" + seed + ", 1, 0)", () -> Edge.busy(text(5, 6, 1)), r -> r.luck(seed, 1, 0), -2);
        }
        for (int n = 0; n <= 5; n++) {
            int bills = n;
            Edge.range("luck(0, 1, #), of " + n, () -> Edge.busy(Edge.bills(1, bills)), n, (r, b) -> r.luck(0, 1, b), -2);
        }
        Edge.refused("luck(0, 1, 0) without a DESK", PaymentRuns::new, r -> r.luck(0, 1, 0), -2);
    }
}
