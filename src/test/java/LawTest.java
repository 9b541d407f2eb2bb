/** Promises 14 to 31: the week by law. */
public final class LawTest {
    public static void main(String[] args) {
        plain();
        released();
        orders();
        feesAndTies();
        lateAndOpen();
        suppliers();
        nothingToPay();
        noneSuch();
        Check.end();
    }

    private static void plain() {
        PaymentRuns runs = Check.desk(Desks.PLAIN);
        Check.same("day(0)", runs.day(0), 0);
        Check.same("day(1)", runs.day(1), 0);
        Check.same("order(0)", runs.order(0), 1);
        Check.same("order(1)", runs.order(1), 0);
        Check.same("order(2)", runs.order(2), -1);
        Check.same("file(0)", runs.file(0), 3);
        Check.same("file(1)", runs.file(1), 0);
        Check.same("pays(0)", runs.pays(0), 85);
        Check.same("pays(2)", runs.pays(2), 0);
        Check.same("cash(0)", runs.cash(0), 15);
        Check.same("cash(1)", runs.cash(1), 55);
        Check.same("cash(2)", runs.cash(2), 55);
        Check.same("room()", runs.room(), 5);
        Check.same("tight()", runs.tight(), 0);
        Check.same("fees()", runs.fees(), 2);
        Check.same("open()", runs.open(), 0);
        Check.same("caught()", runs.caught(), 3);
        Check.same("late()", runs.late(), 0);
        Check.same("saved()", runs.saved(), 7);
        Check.same("lost()", runs.lost(), 0);
        Check.same("total()", runs.total(), 85);
        Check.same("early(0)", runs.early(0), 1);
        Check.same("gets(0)", runs.gets(0), 45);
        Check.same("gets(1)", runs.gets(1), 38);
        Check.same("dear()", runs.dear(), 0);
        Check.same("busy()", runs.busy(), 0);
    }

    private static void released() {
        PaymentRuns runs = Check.desk(Desks.PLAIN);
        runs.frees(1);
        Check.same("day(1)", runs.day(1), 0);
        Check.same("day(0)", runs.day(0), 1);
        Check.same("file(0)", runs.file(0), 2);
        Check.same("file(1)", runs.file(1), 1);
        Check.same("pays(0)", runs.pays(0), 59);
        Check.same("pays(1)", runs.pays(1), 52);
        Check.same("cash(0)", runs.cash(0), 41);
        Check.same("cash(1)", runs.cash(1), 29);
        Check.same("room()", runs.room(), 19);
        Check.same("tight(), the first of two days", runs.tight(), 1);
        Check.same("fees()", runs.fees(), 4);
        Check.same("caught()", runs.caught(), 2);
        Check.same("saved()", runs.saved(), 3);
        Check.same("total()", runs.total(), 111);
        Check.same("early(0)", runs.early(0), 0);
        Check.same("early(1)", runs.early(1), 1);
        Check.same("dear()", runs.dear(), 1);
        Check.same("busy(), the first of two days", runs.busy(), 0);
        runs.fails(0);
        Check.same("nothing on a closed day", runs.file(0), 0);
        Check.same("both on day 1", runs.file(1), 3);
    }

    private static void orders() {
        int[][] due = {{1, 0, 2, 3, 4}, {2, 3, 0, 4, 1}, {3, 0, 2, 1, 4}, {4, 3, 2, 1, 0}};
        for (int law = 0; law < 4; law++) {
            PaymentRuns runs = Check.desk(Desks.ORDERS.replace("law 0", "law " + law));
            for (int i = 0; i < 5; i++) {
                Check.same("order(" + i + ") by law " + law, runs.order(i), due[law][i]);
            }
            Check.same("order(5)", runs.order(5), -1);
            Check.same("order(maximum)", runs.order(Integer.MAX_VALUE), -1);
            Check.same("order(-1)", runs.order(-1), -2);
        }
        String alike = "bill of 0 sum 10 off 5 by 0 due 1 late 1;";
        for (int law = 0; law < 4; law++) {
            PaymentRuns same = Check.desk("desk days 2 law " + law + " odds 0 cash 99 floor 0 fee 0;supplier rank 4;"
                    + alike.repeat(3));
            for (int i = 0; i < 3; i++) {
                Check.same("order(" + i + ") of bills alike by law " + law, same.order(i), i);
            }
        }
        PaymentRuns runs = Check.desk(Desks.ORDERS);
        runs.ranks(0, 9);
        Check.same("order(0), the least number of one rank", runs.order(0), 0);
        Check.same("order(1)", runs.order(1), 1);
        Check.same("order(2)", runs.order(2), 3);
    }

    /** A fee draws a bill to a day on which others are paid, unless it costs more there. */
    private static void feesAndTies() {
        String text = "desk days 4 law 2 odds 0 cash 10 floor 0 fee FEE;supplier rank 0;"
                + "bill of 0 sum 100 off 0 by 0 due 0 late 4;bill of 0 sum 10 off 0 by 0 due 1 late 4;cash 500 on 3;";
        PaymentRuns dear = Check.desk(text.replace("FEE", "9"));
        Check.same("day(0), as soon as there is cash", dear.day(0), 3);
        Check.same("day(1), with the other", dear.day(1), 3);
        Check.same("total()", dear.total(), 100 + 12 + 10 + 8 + 9);
        Check.same("late()", dear.late(), 3);
        Check.same("early(0)", dear.early(0), -3);
        Check.same("early(1)", dear.early(1), -2);
        Check.same("lost()", dear.lost(), 20);
        Check.same("busy()", dear.busy(), 3);
        Check.same("cash(3)", dear.cash(3), 510 - 139);
        PaymentRuns free = Check.desk(text.replace("FEE", "0"));
        Check.same("day(1) without a fee, to the last coin", free.day(1), 0);
        Check.same("cash(0)", free.cash(0), 0);
        Check.same("early(1)", free.early(1), 1);
        PaymentRuns floor = Check.desk(text.replace("FEE", "0").replace("floor 0", "floor 1"));
        Check.same("day(1), the floor is kept", floor.day(1), 3);
        PaymentRuns one = Check.desk(text.replace("FEE", "1"));
        Check.same("day(1), no cash for the fee", one.day(1), 3);
        String same = "desk days 3 law 0 odds 0 cash 60 floor 0 fee 8;supplier rank 0;"
                + "bill of 0 sum 100 off 0 by 0 due 2 late 9;bill of 0 sum 40 off 0 by 0 due 1 late 8;cash 100 on 2;";
        Check.same("the day of the cash", Check.desk(same).day(0), 2);
        Check.same("the earliest of several, by fee or late", Check.desk(same).day(1), 0);
        Check.same("late is less than the fee", Check.desk(same.replace("late 8", "late 7")).day(1), 2);
        Check.same("late is more than the fee", Check.desk(same.replace("late 8", "late 9")).day(1), 0);
    }

    private static void lateAndOpen() {
        PaymentRuns runs = Check.desk("desk days 2 law 0 odds 0 cash 20 floor 5 fee 1;supplier rank 1;"
                + "supplier rank 1;bill of 1 sum 100 off 20 by 1 due 0 late 6;bill of 0 sum 9 off 10 by 0 due 0 late 6;"
                + "bill of 0 sum 5 off 20 by 1 due 1 late 3;");
        Check.same("day(0)", runs.day(0), -1);
        Check.same("day(1)", runs.day(1), 0);
        Check.same("day(2)", runs.day(2), 0);
        Check.same("open()", runs.open(), 1);
        Check.same("caught(), off of which nothing is left too", runs.caught(), 6);
        Check.same("saved()", runs.saved(), 1);
        Check.same("lost(), not paid", runs.lost(), 12);
        Check.same("late(), paid ones alone", runs.late(), 0);
        Check.same("total()", runs.total(), 112 + 9 + 4 + 1);
        Check.same("early(0)", runs.early(0), -100);
        Check.same("gets(1)", runs.gets(1), 0);
        Check.same("gets(0)", runs.gets(0), 13);
        Check.same("dear()", runs.dear(), 0);
        Check.same("room()", runs.room(), 1);
        runs.fails(0);
        runs.fails(1);
        Check.same("open(), all closed", runs.open(), 7);
        Check.same("busy(), none is paid", runs.busy(), -1);
        Check.same("dear(), the first of several", runs.dear(), 0);
        Check.same("fees()", runs.fees(), 0);
        Check.same("caught()", runs.caught(), 0);
        Check.same("total()", runs.total(), 112 + 21 + 8);
    }

    private static void suppliers() {
        PaymentRuns runs = Check.desk("desk days 2 law 0 odds 0 cash 900 floor 0 fee 0;supplier rank 0;"
                + "supplier rank 0;supplier rank 0;bill of 2 sum 30 off 0 by 0 due 0 late 0;"
                + "bill of 1 sum 40 off 0 by 0 due 0 late 0;bill of 2 sum 10 off 0 by 0 due 0 late 0;");
        Check.same("gets(0)", runs.gets(0), 0);
        Check.same("gets(2)", runs.gets(2), 40);
        Check.same("dear(), the first of several", runs.dear(), 1);
        Check.same("caught() without off", runs.caught(), 0);
    }

    private static void nothingToPay() {
        PaymentRuns runs = Check.desk(Desks.EMPTY);
        Check.same("order(0)", runs.order(0), -1);
        Check.same("file(1)", runs.file(1), 0);
        Check.same("pays(1)", runs.pays(1), 0);
        Check.same("cash(1)", runs.cash(1), 3);
        Check.same("room()", runs.room(), -6);
        Check.same("tight()", runs.tight(), 0);
        Check.same("dear()", runs.dear(), -1);
        Check.same("busy()", runs.busy(), -1);
        Check.same("total()", runs.total(), 0);
        PaymentRuns ahead = Check.desk("desk days 3 law 0 odds 0 cash 3 floor 9 fee 0;supplier rank 0;"
                + "bill of 0 sum 4 off 0 by 0 due 0 late 1;cash 50 on 1;");
        Check.same("cash may be below the floor ahead of it", ahead.day(0), 1);
        Check.same("room()", ahead.room(), -6);
        Check.same("tight()", ahead.tight(), 0);
    }

    private static void noneSuch() {
        PaymentRuns none = new PaymentRuns();
        int[] got = {none.tight(), none.fees(), none.open(), none.caught(), none.late(), none.saved(), none.lost(),
            none.total(), none.dear(), none.busy(), none.order(0), none.day(0), none.file(0), none.pays(0), none.gets(0)};
        for (int i = 0; i < got.length; i++) {
            Check.same("without a desk, call " + i, got[i], -2);
        }
        Check.same("room()", none.room(), -100000);
        Check.same("cash(0)", none.cash(0), -100000);
        Check.same("early(0)", none.early(0), -200);
        PaymentRuns runs = Check.desk(Desks.PLAIN);
        for (int i : new int[] {-1, 3, Integer.MIN_VALUE, Integer.MAX_VALUE}) {
            Check.same("day(" + i + ")", runs.day(i), -2);
            Check.same("file(" + i + ")", runs.file(i), -2);
            Check.same("pays(" + i + ")", runs.pays(i), -2);
            Check.same("cash(" + i + ")", runs.cash(i), -100000);
            Check.same("early(" + i + ")", runs.early(i), -200);
            Check.same("gets(" + i + ")", runs.gets(i), -2);
        }
        Check.same("day(2)", runs.day(2), -2);
        Check.same("gets(2)", runs.gets(2), -2);
    }
}
