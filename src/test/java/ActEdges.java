import java.util.function.Supplier;

/** Promises 61 to 64, 67, 69 and 70: each sentence at its bounds. */
final class ActEdges {
    private ActEdges() {
    }

    static void all() {
        frees();
        fails();
        undo();
        anew();
        ranks();
        image();
        back();
    }

    /** A desk of so many bills, and so many acts done on it: the file of day 6 fails, a release by turns. */
    private static Supplier<PaymentRuns> done(int bills, int acts) {
        return () -> {
            PaymentRuns runs = Edge.busy(Edge.bills(1, bills));
            for (int i = 0; i < acts; i++) {
                if (i % 2 == 0 || bills == 0) {
                    runs.fails(6);
                } else {
                    runs.frees(i % bills);
                }
            }
            return runs;
        };
    }

    private static void frees() {
        Edge.of("61", "The held part of a BILL is released (II): TOTAL by LAW then.");
        PaymentRuns runs = Check.desk(Edge.desk(2, 0, 0, 100, 0, 0) + Edge.supplier(0) + Edge.held(0, 60, 10, 0, 0, 4, 60)
                + Edge.held(0, 60, 10, 0, 0, 4, 20));
        Edge.same("total()", runs.total(), 0 + 36);
        Edge.same("frees(1)", runs.frees(1), 0 + 54);
        Edge.same("net(1)", runs.net(1), 60);
        // 54 for bill 0, and bill 1 finds no cash: 60 and 8.
        Edge.same("frees(0)", runs.frees(0), 54 + 68);
        Edge.same("net(0)", runs.net(0), 60);
        Edge.same("frees(0) again", runs.frees(0), 54 + 68);
        Edge.same("acts", runs.count(9), 3);
        Edge.same("of nothing held", Check.desk(Edge.bills(1, 1)).frees(0), 10);
        Edge.of("61", "-2: there is none such;");
        for (int n = 0; n <= 5; n++) {
            Edge.range("frees, of " + n, done(n, 3), n, PaymentRuns::frees, -2);
        }
        Edge.refused("frees(0) without a DESK", PaymentRuns::new, r -> r.frees(0), -2);
        Edge.of("61", "-5: there were 20 acts.");
        for (int acts = 18; acts <= 20; acts++) {
            if (acts < 20) {
                PaymentRuns more = done(2, acts).get();
                Edge.same("frees(0) behind " + acts, more.frees(0), 20);
                Edge.same("acts", more.count(9), acts + 1);
            } else {
                Edge.refused("frees(0) behind 20", done(2, 20), r -> r.frees(0), -5);
                Edge.refused("frees(1) behind 20", done(2, 20), r -> r.frees(1), -5);
                Edge.refused("frees(2) behind 20", done(2, 20), r -> r.frees(2), -2);
                Edge.refused("frees(-1) behind 20", done(2, 20), r -> r.frees(-1), -2);
            }
        }
        PaymentRuns full = done(2, 20).get();
        full.undo();
        Edge.same("frees(0) behind 20 and undo()", full.frees(0), 20);
        Edge.same("frees(0) behind 20 again", full.frees(0), -5);
    }

    private static void fails() {
        Edge.of("62", "The file of a day fails: it is CLOSED (III): TOTAL by LAW then.");
        PaymentRuns runs = Check.desk(Edge.desk(3, 0, 0, 100, 0, 0) + Edge.supplier(0) + Edge.bill(0, 50, 10, 0, 1, 4));
        int[] due = {50, 54, 58};
        for (int d = 0; d < 3; d++) {
            Edge.same("fails(" + d + ")", runs.fails(d), due[d]);
            Edge.same("fails(" + d + ") again", runs.fails(d), due[d]);
            Edge.same("closed()", runs.closed(), (2 << d) - 1);
        }
        Edge.same("acts", runs.count(9), 6);
        Edge.of("62", "-2, -5 likewise.");
        for (int n = 1; n <= 7; n++) {
            String text = Edge.bills(1, 2).replace("days 7", "days " + n);
            Edge.range("fails, days " + n, () -> Edge.busy(text), n, PaymentRuns::fails, -2);
        }
        Edge.refused("fails(0) without a DESK", PaymentRuns::new, r -> r.fails(0), -2);
        for (int acts = 18; acts < 20; acts++) {
            PaymentRuns more = done(2, acts).get();
            Edge.same("fails(0) behind " + acts, more.fails(0), 20);
            Edge.same("acts", more.count(9), acts + 1);
        }
        for (int d = 0; d < 7; d++) {
            int day = d;
            Edge.refused("fails(" + d + ") behind 20", done(2, 20), r -> r.fails(day), -5);
        }
        Edge.refused("fails(7) behind 20", done(2, 20), r -> r.fails(7), -2);
        Edge.refused("fails(-1) behind 20", done(2, 20), r -> r.fails(-1), -2);
        Edge.refused("fails(0) behind 20, without a BILL", done(0, 20), r -> r.fails(0), -5);
    }

    private static void undo() {
        Edge.of("63", "The latest act is taken back: how many there are.");
        PaymentRuns runs = done(5, 20).get();
        for (int left = 19; left >= 0; left--) {
            Edge.same("undo()", runs.undo(), left);
            Edge.same("acts", runs.count(9), left);
        }
        Edge.same("nothing is CLOSED", runs.closed(), 0);
        PaymentRuns latest = Check.desk(Desks.PLAIN);
        latest.fails(1);
        latest.frees(1);
        latest.fails(2);
        latest.fails(1);
        int[][] due = {{6, 60}, {2, 60}, {2, 40}, {0, 40}};
        for (int i = 0; i < 4; i++) {
            Edge.same("undo()", latest.undo(), 3 - i);
            Edge.same("closed()", latest.closed(), due[i][0]);
            Edge.same("net(1)", latest.net(1), due[i][1]);
        }
        latest.fails(0);
        Edge.same("an act behind it", latest.closed(), 1);
        Edge.of("63", "-5: there is none;");
        Edge.refused("undo() of none", () -> Edge.busy(Desks.PLAIN), PaymentRuns::undo, -5);
        Edge.refused("undo() of none, without a BILL", () -> Edge.busy(Desks.EMPTY), PaymentRuns::undo, -5);
        Edge.refused("undo() behind undo()", () -> {
            PaymentRuns back = Edge.busy(Desks.PLAIN);
            back.fails(0);
            back.undo();
            return back;
        }, PaymentRuns::undo, -5);
        Edge.of("63", "-2: there is no DESK.");
        Edge.refused("undo() without a DESK", PaymentRuns::new, PaymentRuns::undo, -2);
        Edge.same("undo() without LINES", Check.desk("").undo(), -2);
    }

    private static void anew() {
        Edge.of("64", "All are: how many there were.");
        for (int acts : new int[] {0, 1, 2, 19, 20}) {
            PaymentRuns runs = done(5, acts).get();
            Edge.same("anew() of " + acts, runs.anew(), acts);
            Edge.same("acts", runs.count(9), 0);
            Edge.same("closed()", runs.closed(), 0);
            Edge.sameState("as it was", runs, done(5, 0).get());
        }
        PaymentRuns held = Check.desk(Desks.PLAIN);
        held.frees(1);
        held.anew();
        Edge.same("net(1)", held.net(1), 40);
        Edge.same("anew() again", held.anew(), 0);
        Edge.of("64", "-2 likewise.");
        Edge.refused("anew() without a DESK", PaymentRuns::new, PaymentRuns::anew, -2);
        Edge.same("anew() without LINES", Check.desk("").anew(), -2);
    }

    private static void ranks() {
        Edge.of("67", "Rank of a SUPPLIER is n (0 .. 9) from now on: what it was.");
        PaymentRuns runs = Check.desk(Desks.PLAIN);
        int before = 1;
        for (int n : new int[] {0, 1, 8, 9, 9, 4}) {
            Edge.same("ranks(0, " + n + ")", runs.ranks(0, n), before);
            Edge.same("rank(0)", runs.rank(0), n);
            Edge.same("rank(1)", runs.rank(1), 5);
            Edge.same("order(0)", runs.order(0), n >= 5 ? 0 : 1);
            before = n;
        }
        runs.ranks(0, 5);
        Edge.same("order(0), as great", runs.order(0), 0);
        Edge.same("it is no act", runs.count(9), 0);
        Edge.of("67", "-5: there were acts;");
        for (int acts : new int[] {1, 2, 20}) {
            Edge.refused("ranks(0, 3) behind " + acts, done(2, acts), r -> r.ranks(0, 3), -5);
            Edge.refused("ranks(0, 1) behind " + acts, done(2, acts), r -> r.ranks(0, 1), -5);
            Edge.refused("ranks(1, 3) behind " + acts, done(2, acts), r -> r.ranks(1, 3), -2);
            Edge.refused("ranks(0, 10) behind " + acts, done(2, acts), r -> r.ranks(0, 10), -2);
            Edge.refused("ranks(0, -1) behind " + acts, done(2, acts), r -> r.ranks(0, -1), -2);
        }
        PaymentRuns back = done(2, 1).get();
        back.undo();
        Edge.same("ranks(0, 3), taken back", back.ranks(0, 3), 1);
        PaymentRuns anew = done(2, 20).get();
        anew.anew();
        Edge.same("ranks(0, 3), all taken back", anew.ranks(0, 3), 1);
        Edge.of("67", "-2: there are none such.");
        for (int n = 0; n <= 4; n++) {
            int suppliers = n;
            Edge.range("ranks(#, 3), of " + n, () -> Edge.busy(Edge.bills(suppliers, 0)), n, (r, s) -> r.ranks(s, 3), -2);
        }
        Edge.range("ranks(0, #)", () -> Edge.busy(Desks.PLAIN), 10, (r, n) -> r.ranks(0, n), -2);
        Edge.refused("ranks(0, 0) without a DESK", PaymentRuns::new, r -> r.ranks(0, 0), -2);
    }

    private static void image() {
        Edge.of("69", "IMAGE k (0 .. 2) keeps the DESK, and acts: 0.");
        PaymentRuns runs = Check.desk(Desks.PLAIN);
        for (int k = 0; k < 3; k++) {
            Edge.same("image(" + k + ")", runs.image(k), 0);
            Edge.same("acts", runs.count(9), k);
            runs.fails(k);
        }
        runs.anew();
        runs.ranks(0, 8);
        for (int k = 2; k >= 0; k--) {
            Edge.same("back(" + k + ")", runs.back(k), 0);
            Edge.same("acts of " + k, runs.count(9), k);
            Edge.same("closed of " + k, runs.closed(), (1 << k) - 1);
            Edge.same("rank(0) of " + k, runs.rank(0), 1);
            runs.fails(0);
        }
        runs.back(2);
        Edge.same("image(0), in place of another one", runs.image(0), 0);
        runs.anew();
        runs.back(0);
        Edge.same("acts", runs.count(9), 2);
        PaymentRuns acts = Check.desk(Edge.bills(1, 3).replace("late 1", "late 1 held 4"));
        acts.fails(3);
        acts.frees(2);
        acts.fails(5);
        acts.image(1);
        acts.anew();
        acts.fails(0);
        acts.fails(1);
        acts.frees(0);
        acts.back(1);
        Edge.same("closed(), the acts that were", acts.closed(), 8 + 32);
        Edge.same("net(0)", acts.net(0), 6);
        Edge.same("net(2)", acts.net(2), 10);
        twentyKept();
        PaymentRuns none = new PaymentRuns();
        Edge.same("image(0) without a DESK", none.image(0), 0);
        Check.tape(none, Desks.PLAIN);
        none.desk();
        Edge.same("back(0)", none.back(0), 0);
        Edge.same("no DESK", none.closed(), -2);
        Edge.of("69", "-2: no such k.");
        Edge.range("image", () -> Edge.busy(Desks.PLAIN), 3, PaymentRuns::image, -2);
        Edge.refused("image(3) without a DESK", PaymentRuns::new, r -> r.image(3), -2);
        Edge.refused("image(-1) without a DESK", PaymentRuns::new, r -> r.image(-1), -2);
    }

    /** The twentieth act is kept, too. */
    private static void twentyKept() {
        PaymentRuns runs = Check.desk(Edge.bills(1, 3));
        for (int i = 0; i < 20; i++) {
            runs.fails(i < 19 ? 0 : 4);
        }
        runs.image(2);
        runs.anew();
        for (int i = 0; i < 20; i++) {
            runs.fails(1);
        }
        runs.back(2);
        Edge.same("closed(), of twenty acts", runs.closed(), 1 + 16);
        Edge.same("undo()", runs.undo(), 19);
        Edge.same("closed(), of nineteen", runs.closed(), 1);
    }

    private static void back() {
        Edge.of("70", "It is as IMAGE k has it: 0.");
        String full = Edge.desk(7, 3, 9, 8888, 4444, 111) + Edge.supplier(7).repeat(4)
                + Edge.held(3, 9, 8, 7 - 1, 5, 4, 3).repeat(5) + Edge.cash(2, 1).repeat(6);
        for (int k = 0; k < 3; k++) {
            PaymentRuns runs = Check.desk(full);
            runs.ranks(3, 2);
            for (int i = 0; i < 20; i++) {
                Edge.isTrue("act", i % 2 == 0 ? runs.frees(i % 5) > 0 : runs.fails(i % 7) > 0);
            }
            String told = Edge.told(runs);
            runs.image(k);
            Check.tape(runs, Desks.EMPTY);
            runs.desk();
            runs.fails(1);
            Edge.same("back(" + k + ")", runs.back(k), 0);
            Edge.isTrue("all that is told: " + told + " as " + Edge.told(runs), told.equals(Edge.told(runs)));
            Edge.same("undo(), its acts", runs.undo(), 19);
            runs.anew();
            Edge.same("back(" + k + ") again", runs.back(k), 0);
            Edge.isTrue("all that is told again", told.equals(Edge.told(runs)));
        }
        PaymentRuns other = Check.desk(Desks.PLAIN);
        other.image(0);
        Check.row(other, 1, 1, 1);
        Check.tape(other, "X");
        other.desk();
        Check.tape(other, Desks.EMPTY);
        other.back(0);
        Edge.same("rows stay", other.sums(1), 90);
        Edge.same("the tape stays", other.count(11), Desks.EMPTY.length());
        Edge.same("the fault stays", other.fault(0), 1);
        Edge.of("70", "-2: no such k;");
        for (int k : new int[] {Edge.MIN, -1, 3, 4, Edge.MAX}) {
            Edge.refused("back(" + k + ")", () -> Edge.busy(Desks.PLAIN), r -> r.back(k), -2);
            Edge.refused("back(" + k + ") of nothing", PaymentRuns::new, r -> r.back(k), -2);
        }
        Edge.of("70", "-6: it has nothing.");
        for (int k = 0; k < 3; k++) {
            int asked = k;
            Edge.refused("back(" + k + ") of a new one", PaymentRuns::new, r -> r.back(asked), -6);
            PaymentRuns kept = Check.desk(Desks.PLAIN);
            kept.image((k + 1) % 3);
            Edge.same("back(" + k + "), another one is kept", kept.back(k), -6);
            kept.image(k);
            Edge.same("back(" + k + ")", kept.back(k), 0);
        }
        Edge.refused("back(0), IMAGE 1 is kept", () -> Edge.busy(Desks.PLAIN), r -> r.back(0), -6);
        Edge.refused("back(2), IMAGE 1 is kept", () -> Edge.busy(Desks.PLAIN), r -> r.back(2), -6);
    }
}
