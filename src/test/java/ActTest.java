/** Promises 61 to 64, 67, 69 and 70: acts, ranks, images. */
public final class ActTest {
    private static final int MIN = Integer.MIN_VALUE;
    private static final int MAX = Integer.MAX_VALUE;

    public static void main(String[] args) {
        acts();
        twentyActs();
        ranks();
        images();
        noneSuch();
        Check.end();
    }

    private static void acts() {
        PaymentRuns runs = Check.desk(Desks.PLAIN);
        Check.same("undo() of none", runs.undo(), -5);
        Check.same("anew() of none", runs.anew(), 0);
        Check.same("frees(1)", runs.frees(1), 111);
        Check.same("fails(0)", runs.fails(0), 109);
        Check.same("fails(0) again", runs.fails(0), 109);
        Check.same("frees(0), nothing held", runs.frees(0), 109);
        Check.same("acts", runs.count(9), 4);
        Check.same("undo()", runs.undo(), 3);
        Check.same("undo()", runs.undo(), 2);
        Check.same("still closed", runs.closed(), 1);
        Check.same("undo()", runs.undo(), 1);
        Check.same("open again", runs.closed(), 0);
        Check.same("total()", runs.total(), 111);
        Check.same("undo()", runs.undo(), 0);
        Check.same("net(1) is held again", runs.net(1), 40);
        Check.same("undo()", runs.undo(), -5);
        runs.fails(2);
        runs.frees(1);
        Check.same("anew()", runs.anew(), 2);
        Check.same("acts", runs.count(9), 0);
        Check.same("closed()", runs.closed(), 0);
        Check.same("total()", runs.total(), 85);
        for (int none : new int[] {-1, 3, MIN, MAX}) {
            Check.same("frees(" + none + ")", runs.frees(none), -2);
            Check.same("fails(" + none + ")", runs.fails(none), -2);
        }
        Check.same("frees(2)", runs.frees(2), -2);
        Check.same("no act", runs.count(9), 0);
    }

    private static void twentyActs() {
        PaymentRuns runs = Check.desk(Desks.PLAIN);
        for (int i = 0; i < 20; i++) {
            Check.same("fails(2)", runs.fails(2), 85);
        }
        Check.same("frees(1) behind 20", runs.frees(1), -5);
        Check.same("fails(0) behind 20", runs.fails(0), -5);
        Check.same("frees(2) behind 20", runs.frees(2), -2);
        Check.same("fails(3) behind 20", runs.fails(3), -2);
        Check.same("acts", runs.count(9), 20);
        Check.same("net(1)", runs.net(1), 40);
        Check.same("closed()", runs.closed(), 4);
        Check.same("undo()", runs.undo(), 19);
        Check.same("frees(1)", runs.frees(1), 111);
        Check.same("anew()", runs.anew(), 20);
    }

    private static void ranks() {
        PaymentRuns runs = Check.desk(Desks.PLAIN);
        Check.same("ranks(0, 9)", runs.ranks(0, 9), 1);
        Check.same("rank(0)", runs.rank(0), 9);
        Check.same("order(0)", runs.order(0), 0);
        Check.same("ranks(0, 0)", runs.ranks(0, 0), 9);
        Check.same("order(0)", runs.order(0), 1);
        for (int none : new int[] {-1, 2, MIN, MAX}) {
            Check.same("ranks(" + none + ", 0)", runs.ranks(none, 0), -2);
        }
        for (int none : new int[] {-1, 10, MIN, MAX}) {
            Check.same("ranks(0, " + none + ")", runs.ranks(0, none), -2);
        }
        runs.frees(0);
        Check.same("ranks(0, 3) behind an act", runs.ranks(0, 3), -5);
        Check.same("ranks(2, 3) behind an act", runs.ranks(2, 3), -2);
        Check.same("ranks(0, 10) behind an act", runs.ranks(0, 10), -2);
        Check.same("rank(0)", runs.rank(0), 0);
        runs.undo();
        Check.same("ranks(0, 3)", runs.ranks(0, 3), 0);
    }

    private static void images() {
        PaymentRuns runs = Check.desk(Desks.PLAIN);
        for (int none : new int[] {-1, 3, MIN, MAX}) {
            Check.same("image(" + none + ")", runs.image(none), -2);
            Check.same("back(" + none + ")", runs.back(none), -2);
        }
        Check.same("back(2) of nothing", runs.back(2), -6);
        runs.ranks(0, 7);
        Check.same("image(0)", runs.image(0), 0);
        runs.frees(1);
        runs.fails(2);
        Check.same("image(2)", runs.image(2), 0);
        runs.anew();
        runs.ranks(0, 2);
        Check.tape(runs, Desks.ORDERS);
        Check.same("desk()", runs.desk(), 9);
        runs.fails(6);
        Check.row(runs, 1, 5, 6);
        runs.feed(0, 0, 0, 0, 0);
        Check.same("back(2)", runs.back(2), 0);
        Check.same("rank(0)", runs.rank(0), 7);
        Check.same("acts", runs.count(9), 2);
        Check.same("closed()", runs.closed(), 4);
        Check.same("total()", runs.total(), runs.by(0));
        Check.same("lines", runs.count(10), 7);
        Check.same("the tape stays", runs.count(11), 20);
        Check.same("rows stay", runs.count(12), 1);
        Check.same("undo()", runs.undo(), 1);
        Check.same("back(2) again", runs.back(2), 0);
        Check.same("the image has its acts", runs.count(9), 2);
        Check.same("back(0)", runs.back(0), 0);
        Check.same("acts", runs.count(9), 0);
        Check.same("total()", runs.total(), 85);
        Check.same("back(1) of nothing", runs.back(1), -6);
        PaymentRuns none = new PaymentRuns();
        Check.same("image(1) without a desk", none.image(1), 0);
        Check.tape(none, Desks.PLAIN);
        none.desk();
        Check.same("back(1)", none.back(1), 0);
        Check.same("no desk", none.total(), -2);
        Check.same("count(10)", none.count(10), 0);
    }

    private static void noneSuch() {
        PaymentRuns none = new PaymentRuns();
        Check.same("frees(0)", none.frees(0), -2);
        Check.same("fails(0)", none.fails(0), -2);
        Check.same("undo()", none.undo(), -2);
        Check.same("anew()", none.anew(), -2);
        Check.same("ranks(0, 0)", none.ranks(0, 0), -2);
    }
}
