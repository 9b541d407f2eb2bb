/** Promises 42 to 46: blame, need, floor, broke, closing. */
public final class OtherwiseTest {
    public static void main(String[] args) {
        blame();
        need();
        floor();
        closing();
        noneSuch();
        Check.end();
    }

    private static void blame() {
        PaymentRuns runs = Check.desk(Desks.PLAIN);
        Check.same("blame(), none is in the way", runs.blame(), -1);
        runs.frees(1);
        // Without bill 1 TOTAL is 47 (less than 111 - 57), without bill 0 it is 59 (111 - 50 is 61).
        Check.same("blame(), the least TOTAL", runs.blame(), 1);
        Check.same("blame() without a bill", Check.desk(Desks.EMPTY).blame(), -1);
        PaymentRuns same = Check.desk("desk days 1 law 0 odds 0 cash 100 floor 0 fee 10;supplier rank 0;"
                + "bill of 0 sum 20 off 0 by 0 due 0 late 0;bill of 0 sum 20 off 0 by 0 due 0 late 0;");
        Check.same("blame(), a fee that stays blames none", same.blame(), -1);
        PaymentRuns alike = Check.desk("desk days 2 law 0 odds 0 cash 30 floor 0 fee 10;supplier rank 0;"
                + "bill of 0 sum 20 off 0 by 0 due 1 late 0;bill of 0 sum 20 off 0 by 0 due 1 late 0;cash 30 on 1;");
        // Both go out on two days: without the one a fee is saved, likewise without the other.
        Check.same("fees()", alike.fees(), 20);
        Check.same("blame(), the first of several", alike.blame(), 0);
        PaymentRuns open = Check.desk("desk days 1 law 0 odds 0 cash 30 floor 0 fee 0;supplier rank 9;supplier rank 0;"
                + "bill of 0 sum 30 off 0 by 0 due 0 late 0;bill of 1 sum 30 off 10 by 0 due 0 late 0;");
        Check.same("open()", open.open(), 2);
        Check.same("blame(), it leaves cash for the other", open.blame(), 0);
    }

    private static void need() {
        PaymentRuns runs = Check.desk(Desks.PLAIN);
        Check.same("need()", runs.need(), 62);
        Check.same("cash stays", runs.count(3), 100);
        runs.fails(1);
        runs.fails(2);
        Check.same("need(), day 0 alone", runs.need(), 95);
        runs.fails(0);
        Check.same("need(), all closed", runs.need(), -1);
        Check.same("need() without a bill", Check.desk(Desks.EMPTY).need(), 0);
        String great = "desk days 1 law 0 odds 0 cash 0 floor 5000 fee FEE;supplier rank 0;"
                + "bill of 0 sum 3000 off 0 by 0 due 0 late 0;bill of 0 sum 1900 off 0 by 0 due 0 late 0;";
        Check.same("need(), the most", Check.desk(great.replace("FEE", "99")).need(), 9999);
        Check.same("need() beyond the most", Check.desk(great.replace("FEE", "100")).need(), -1);
        Check.same("need(), one", Check.desk("desk days 1 law 0 odds 0 cash 0 floor 0 fee 0;supplier rank 0;"
                + "bill of 0 sum 1 off 0 by 0 due 0 late 0;").need(), 1);
        // With 60 to 64 both go on day 1. With 65 bill 0 goes on day 0, and bill 1 has no cash for a fee of its own.
        String gap = "desk days 2 law 0 odds 0 cash 65 floor 0 fee 20;supplier rank 5;supplier rank 1;"
                + "bill of 0 sum 50 off 10 by 0 due 1 late 0;bill of 1 sum 40 off 0 by 0 due 1 late 0;cash 50 on 1;";
        Check.same("open(), more cash", Check.desk(gap).open(), 2);
        Check.same("need(), the least", Check.desk(gap).need(), 60);
    }

    private static void floor() {
        PaymentRuns runs = Check.desk(Desks.PLAIN);
        Check.same("floor()", runs.floor(), 15);
        Check.same("the floor stays", runs.count(4), 10);
        Check.same("floor() without a bill", Check.desk(Desks.EMPTY).floor(), 5000);
        PaymentRuns rich = Check.desk("desk days 1 law 0 odds 0 cash 5009 floor 0 fee 0;supplier rank 0;"
                + "bill of 0 sum 9 off 0 by 0 due 0 late 1;");
        Check.same("floor(), the most", rich.floor(), 5000);
        PaymentRuns next = Check.desk("desk days 1 law 0 odds 0 cash 5008 floor 0 fee 0;supplier rank 0;"
                + "bill of 0 sum 9 off 0 by 0 due 0 late 1;");
        Check.same("floor(), the next below the most", next.floor(), 4999);
        PaymentRuns less = Check.desk("desk days 1 law 0 odds 0 cash 5008 floor 5000 fee 0;supplier rank 0;"
                + "bill of 0 sum 9 off 0 by 0 due 0 late 1;");
        Check.same("floor(), it isn't paid now", less.floor(), 5000);
        PaymentRuns fee = Check.desk("desk days 1 law 0 odds 0 cash 100 floor 0 fee 6;supplier rank 0;"
                + "bill of 0 sum 9 off 0 by 0 due 0 late 1;");
        Check.same("floor(), not paid is cheaper", fee.floor(), 5000);
    }

    private static void closing() {
        PaymentRuns runs = Check.desk(Desks.PLAIN);
        Check.same("closing(0)", runs.closing(0), 5);
        Check.same("closing(1)", runs.closing(1), 0);
        Check.same("closed() stays", runs.closed(), 0);
        Check.same("broke(), none", runs.broke(), -1);
        runs.frees(1);
        runs.fails(2);
        // Without day 1 bill 0 finds no day: 56 not paid in place of 50 and a fee of 2.
        Check.same("closing(1)", runs.closing(1), 4);
        Check.same("broke()", runs.broke(), 1);
        Check.same("closing(0), below 0", runs.closing(0), -2);
        Check.same("closing(2), closed already", runs.closing(2), 0);
        PaymentRuns open = Check.desk("desk days 2 law 0 odds 0 cash 9 floor 0 fee 0;supplier rank 0;"
                + "bill of 0 sum 99 off 0 by 0 due 0 late 0;cash 1 on 1;");
        Check.same("broke(), not paid now either", open.broke(), -1);
        for (int none : new int[] {-1, 3, Integer.MIN_VALUE, Integer.MAX_VALUE}) {
            Check.same("closing(" + none + ")", runs.closing(none), -100000);
        }
    }

    private static void noneSuch() {
        PaymentRuns none = new PaymentRuns();
        Check.same("blame()", none.blame(), -2);
        Check.same("need()", none.need(), -2);
        Check.same("floor()", none.floor(), -2);
        Check.same("broke()", none.broke(), -2);
        Check.same("closing(0)", none.closing(0), -100000);
    }
}
