/** Desks of the tests whose answers were worked out by hand. */
final class Desks {
    /**
     * By law bill 1, then bill 0, both on day 0, cash behind it 15. With bill 1 released only one of them
     * goes on day 0: bill 1 by law (TOTAL 111), bill 0 in the best plan (106).
     */
    static final String PLAIN = "desk days 3 law 0 odds 5 cash 100 floor 10 fee 2;"
            + "supplier rank 1;supplier rank 5;"
            + "bill of 0 sum 50 off 10 by 0 due 1 late 3;"
            + "bill of 1 sum 60 off 5 by 1 due 1 late 7 held 20;"
            + "cash 40 on 1;cash 30 on 6;";

    /** Four bills of which each law has another one first. */
    static final String ORDERS = "desk days 7 law 0 odds 3 cash 5000 floor 0 fee 1;"
            + "supplier rank 2;supplier rank 9;supplier rank 2;"
            + "bill of 0 sum 400 off 2 by 0 due 4 late 1;"
            + "bill of 1 sum 300 off 1 by 0 due 6 late 1;"
            + "bill of 2 sum 200 off 20 by 3 due 5 late 1;"
            + "bill of 0 sum 100 off 20 by 2 due 3 late 1;"
            + "bill of 2 sum 900 off 20 by 0 due 6 late 1 held 850;";

    /** No bill at all, cash below the floor. */
    static final String EMPTY = "desk days 2 law 1 odds 4 cash 3 floor 9 fee 5;";

    private Desks() {
    }
}
