/** Promises 55 to 60, 65 and 66: shares, the game, chance, weeks drawn. */
public final class ChanceTest {
    private static final int MIN = Integer.MIN_VALUE;
    private static final int MAX = Integer.MAX_VALUE;

    public static void main(String[] args) {
        shares();
        game();
        moreOff();
        chance();
        drawn();
        noneSuch();
        Check.end();
    }

    private static void shares() {
        PaymentRuns runs = Check.desk(Desks.PLAIN);
        int[] worth = {0, 3, 0, 5};
        for (int set = 0; set < 4; set++) {
            Check.same("worth(" + set + ")", runs.worth(set), worth[set]);
        }
        for (int none : new int[] {-1, 4, MIN, MAX}) {
            Check.same("worth(" + none + ")", runs.worth(none), -2);
        }
        fraction("share of 0", runs.share(0, 0), runs.share(0, 1), 4, 1);
        fraction("share of 1", runs.share(1, 0), runs.share(1, 1), 1, 1);
        runs.frees(1);
        Check.same("worth(3), below 0", runs.worth(3), -1);
        fraction("share of 0", runs.share(0, 0), runs.share(0, 1), 1, 2);
        fraction("share of 1, below 0", runs.share(1, 0), runs.share(1, 1), -3, 2);
        for (int none : new int[] {-1, 2, MIN, MAX}) {
            Check.same("share(" + none + ", 0)", runs.share(none, 0), -1000000);
            Check.same("share(0, " + none + ")", runs.share(0, none), -1000000);
        }
        PaymentRuns three = Check.desk("desk days 1 law 0 odds 0 cash 5000 floor 0 fee 10;supplier rank 0;"
                + "bill of 0 sum 100 off 0 by 0 due 0 late 0;".repeat(3));
        fraction("a fee for three", three.share(1, 0), three.share(1, 1), -10, 3);
        PaymentRuns nought = Check.desk("desk days 1 law 0 odds 0 cash 50 floor 0 fee 0;supplier rank 0;"
                + "bill of 0 sum 5 off 0 by 0 due 0 late 0;".repeat(5));
        fraction("nothing for five", nought.share(4, 0), nought.share(4, 1), 0, 1);
    }

    private static void fraction(String what, long above, long below, long dueAbove, long dueBelow) {
        Check.same(what + ", above", above, dueAbove);
        Check.same(what + ", below", below, dueBelow);
    }

    private static void game() {
        PaymentRuns runs = Check.desk(Desks.PLAIN);
        int[] first = {45, 43, 45, 43};
        int[] other = {38, 38, 36, 36};
        has(runs, first, other);
        Check.same("rests(0, 1)", runs.rests(0, 1), 1);
        Check.same("rests(1, 0)", runs.rests(1, 0), 1);
        runs.frees(1);
        has(runs, new int[] {40, 40, 40, 40}, new int[] {57, 57, 54, 54});
        Check.same("rests(0, 1), the first gains nothing", runs.rests(0, 1), 3);
        Check.same("rests(1, 0), the other gains nothing", runs.rests(1, 0), 5);
        for (int none : new int[] {-1, 2, MIN, MAX}) {
            Check.same("rests(" + none + ", 0)", runs.rests(none, 0), -2);
            Check.same("rests(0, " + none + ")", runs.rests(0, none), -2);
            Check.same("has(" + none + ", 0, 0, 0)", runs.has(none, 0, 0, 0), -100000);
            Check.same("has(0, " + none + ", 0, 0)", runs.has(0, none, 0, 0), -100000);
            Check.same("has(0, 1, " + none + ", 0)", runs.has(0, 1, none, 0), -100000);
            Check.same("has(0, 1, 0, " + none + ")", runs.has(0, 1, 0, none), -100000);
        }
        Check.same("rests(1, 1)", runs.rests(1, 1), -2);
        Check.same("has(1, 1, 0, 0)", runs.has(1, 1, 0, 0), -100000);
    }

    private static void has(PaymentRuns runs, int[] first, int[] other) {
        for (int pair = 0; pair < 4; pair++) {
            int more = pair & 1;
            int otherMore = pair >> 1;
            Check.same("has(0, 1), pair " + pair, runs.has(0, 1, more, otherMore), first[pair]);
            Check.same("has(1, 0), pair " + pair, runs.has(1, 0, otherMore, more), other[pair]);
        }
    }

    /** More off brings a bill ahead by law 1: the one that gives it alone is paid on day 0. */
    private static void moreOff() {
        PaymentRuns runs = Check.desk("desk days 7 law 1 odds 0 cash 100 floor 0 fee 0;supplier rank 0;supplier rank 0;"
                + "bill of 0 sum 100 off 20 by 6 due 6 late 0;bill of 1 sum 100 off 20 by 6 due 6 late 0;cash 80 on 6;");
        // 80 on day 0 for the first by law; the other waits for day 6: 80 - 60.
        Check.same("has(0, 1, 0, 0)", runs.has(0, 1, 0, 0), 80);
        Check.same("has(1, 0, 0, 0)", runs.has(1, 0, 0, 0), 20);
        Check.same("has(1, 0, 1, 0), above 20 off", runs.has(1, 0, 1, 0), 75);
        Check.same("has(0, 1, 0, 1)", runs.has(0, 1, 0, 1), 20);
        Check.same("has(0, 1, 1, 1)", runs.has(0, 1, 1, 1), 75);
        Check.same("has(1, 0, 1, 1)", runs.has(1, 0, 1, 1), 15);
        // Bill 0 is ahead unless the other alone gives more.
        Check.same("has(0, 1, 1, 0)", runs.has(0, 1, 1, 0), 75);
        Check.same("has(1, 0, 0, 1)", runs.has(1, 0, 0, 1), 20);
        // One of the two has always more by the other choice.
        Check.same("rests(0, 1), none", runs.rests(0, 1), 0);
        PaymentRuns waits = Check.desk("desk days 7 law 0 odds 0 cash 160 floor 0 fee 0;supplier rank 9;supplier rank 0;"
                + "bill of 0 sum 100 off 20 by 6 due 6 late 0;bill of 1 sum 100 off 16 by 6 due 6 late 0;cash 80 on 6;");
        // Bill 1 goes on day 0 if it gives more: 79 in place of 84 - 60, or by 5 more off of the first one too.
        Check.same("rests(0, 1)", waits.rests(0, 1), 4);
        Check.same("rests(1, 0)", waits.rests(1, 0), 2);
        PaymentRuns open = Check.desk("desk days 4 law 1 odds 0 cash 10 floor 0 fee 0;supplier rank 0;supplier rank 0;"
                + "bill of 0 sum 100 off 20 by 6 due 6 late 9;");
        Check.same("has, not paid", open.has(0, 1, 0, 0), -40);
        Check.same("has, without a bill", open.has(1, 0, 1, 0), 0);
        Check.same("rests, all alike", open.rests(0, 1), 15);
    }

    private static void chance() {
        PaymentRuns runs = Check.desk(Desks.PLAIN);
        fraction("chance of 0", runs.chance(0, 0), runs.chance(0, 1), 1, 1);
        fraction("mean", runs.mean(0), runs.mean(1), 85, 1);
        runs.frees(1);
        fraction("chance of 0", runs.chance(0, 0), runs.chance(0, 1), 1, 2);
        fraction("chance of 1", runs.chance(1, 0), runs.chance(1, 1), 1, 1);
        fraction("mean", runs.mean(0), runs.mean(1), 113, 1);
        for (int none : new int[] {-1, 2, MIN, MAX}) {
            Check.same("chance(" + none + ", 0)", runs.chance(none, 0), -2);
            Check.same("chance(0, " + none + ")", runs.chance(0, none), -2);
            Check.same("mean(" + none + ")", runs.mean(none), -2);
        }
        String three = "desk days 2 law 0 odds 3 cash 0 floor 0 fee 0;supplier rank 0;"
                + "bill of 0 sum 20 off 0 by 0 due 1 late 5;cash 10 on 0;cash 10 on 0;cash 10 on 1;";
        // Two of three come: 3 * 9 * 7 + 27 = 216 of 1000; else 25.
        PaymentRuns two = Check.desk(three);
        fraction("chance, two of three", two.chance(0, 0), two.chance(0, 1), 27, 125);
        fraction("mean, two of three", two.mean(0), two.mean(1), 598, 25);
        PaymentRuns never = Check.desk(three.replace("odds 3", "odds 0"));
        fraction("chance, never", never.chance(0, 0), never.chance(0, 1), 0, 1);
        fraction("mean, never", never.mean(0), never.mean(1), 25, 1);
        PaymentRuns ever = Check.desk(three.replace("odds 3", "odds 10"));
        fraction("chance, ever", ever.chance(0, 0), ever.chance(0, 1), 1, 1);
        PaymentRuns empty = Check.desk(Desks.EMPTY);
        fraction("mean of nothing", empty.mean(0), empty.mean(1), 0, 1);
        // Beyond an int ahead of lowest terms.
        PaymentRuns great = Check.desk("desk days 1 law 0 odds 9 cash 0 floor 0 fee 0;supplier rank 0;"
                + "bill of 0 sum 2999 off 0 by 0 due 0 late 98;".repeat(5) + "cash 3000 on 0;".repeat(6));
        long above = 0;
        for (int lines = 0; lines < 64; lines++) {
            int come = Integer.bitCount(lines);
            above += Math.round(Math.pow(9, come)) * (5 * 2999 + 98L * (5 - Math.min(5, come)));
        }
        long common = java.math.BigInteger.valueOf(above).gcd(java.math.BigInteger.valueOf(1000000)).longValue();
        fraction("mean, great", great.mean(0), great.mean(1), above / common, 1000000 / common);
    }

    private static void drawn() {
        String text = "desk days 2 law 0 odds 5 cash 0 floor 0 fee 0;supplier rank 0;"
                + "bill of 0 sum 3 off 0 by 0 due 0 late 1;cash 1 on 0;cash 2 on 0;cash 4 on 0;cash 8 on 1;cash 16 on 6;";
        PaymentRuns runs = Check.desk(text);
        int paid = 0;
        for (int seed = 0; seed < 20; seed++) {
            int lines = linesDrawn(1000 + seed, 5, 5);
            Check.same("drawn(" + (1000 + seed) + ", 0)", runs.drawn(1000 + seed, 0), lines);
            int first = lines & 7;
            int total = first >= 3 ? 3 : (lines & 15) >= 4 ? 4 : 5;
            Check.same("drawn(" + (1000 + seed) + ", 1)", runs.drawn(1000 + seed, 1), total);
            paid += total < 5 ? 1 : 0;
            Check.same("luck(1000, " + (seed + 1) + ", 0)", runs.luck(1000, seed + 1, 0), paid);
        }
        Check.same("drawn(0, 0)", runs.drawn(0, 0), linesDrawn(0, 5, 5));
        Check.isTrue("luck from seed 0", runs.luck(0, 20, 0) >= 0);
        Check.same("drawn(2000000000, 0)", runs.drawn(2000000000, 0), linesDrawn(2000000000, 5, 5));
        Check.isTrue("luck from the greatest seed", runs.luck(2000000000, 20, 0) >= 0);
        for (int none : new int[] {-1, 2000000001, MIN, MAX}) {
            Check.same("drawn(" + none + ", 0)", runs.drawn(none, 0), -2);
            Check.same("luck(" + none + ", 1, 0)", runs.luck(none, 1, 0), -2);
        }
        for (int none : new int[] {-1, 2, MIN, MAX}) {
            Check.same("drawn(0, " + none + ")", runs.drawn(0, none), -2);
            Check.same("luck(0, 1, " + none + ")", runs.luck(0, 1, none), -2);
        }
        for (int none : new int[] {0, 21, -1, MIN, MAX}) {
            Check.same("luck(0, " + none + ", 0)", runs.luck(0, none, 0), -2);
        }
        Check.same("all come", Check.desk(text.replace("odds 5", "odds 10")).drawn(77, 0), 31);
        Check.same("none comes", Check.desk(text.replace("odds 5", "odds 0")).drawn(77, 0), 0);
    }

    /** The draws of term IX, in numbers without bounds. */
    private static int linesDrawn(int seed, int lines, int odds) {
        java.math.BigInteger x = java.math.BigInteger.valueOf(seed);
        int bits = 0;
        for (int i = 0; i < lines; i++) {
            x = x.multiply(java.math.BigInteger.valueOf(1103515245)).add(java.math.BigInteger.valueOf(12345))
                    .mod(java.math.BigInteger.valueOf(2147483648L));
            bits |= x.longValue() / 65536 % 10 < odds ? 1 << i : 0;
        }
        return bits;
    }

    private static void noneSuch() {
        PaymentRuns none = new PaymentRuns();
        Check.same("worth(0)", none.worth(0), -2);
        Check.same("share(0, 0)", none.share(0, 0), -1000000);
        Check.same("rests(0, 1)", none.rests(0, 1), -2);
        Check.same("has(0, 1, 0, 0)", none.has(0, 1, 0, 0), -100000);
        Check.same("chance(0, 0)", none.chance(0, 0), -2);
        Check.same("mean(0)", none.mean(0), -2);
        Check.same("drawn(0, 0)", none.drawn(0, 0), -2);
        Check.same("luck(0, 1, 0)", none.luck(0, 1, 0), -2);
    }
}
