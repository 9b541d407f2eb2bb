/** Promises 1 to 5: a new object, feed, end, desk, fault. */
public final class TapeTest {
    private static final String FIRST = "desk days 5 law 2 odds 1 cash 9 floor 4 fee 3;";
    private static final String SUPPLIER = "supplier rank 3;";
    private static final String BILL = "bill of 0 sum 5 off 3 by 2 due 2 late 4;";
    private static final String CASH = "cash 7 on 6;";

    public static void main(String[] args) {
        newObject();
        feedAndEnd();
        deskReplaces();
        wordsAndBlanks();
        bounds();
        misplaced();
        atTheEnd();
        tooMany();
        Check.end();
    }

    private static void newObject() {
        PaymentRuns runs = new PaymentRuns();
        for (int what = 0; what <= 12; what++) {
            Check.same("count(" + what + ") of a new one", runs.count(what), 0);
        }
        Check.same("fault(0) ahead of any", runs.fault(0), 0);
        Check.same("fault(1) ahead of any", runs.fault(1), -1);
        Check.same("fault(2)", runs.fault(2), -1);
        Check.same("fault(-1)", runs.fault(-1), -1);
        Check.same("NONE", PaymentRuns.NONE, -1);
        Check.same("total() of a new one", runs.total(), -2);
        Check.same("back(0) of a new one", runs.back(0), -6);
    }

    private static void feedAndEnd() {
        PaymentRuns runs = new PaymentRuns();
        Check.same("end(0)", runs.end(0), 0);
        Check.same("end(1) of none", runs.end(1), -1);
        for (int i = 1; i <= 35; i++) {
            Check.same("feed " + i, runs.feed(0, 1, 2, 3, 4), 20 * i);
        }
        Check.same("feed beyond 700", runs.feed(0, 0, 0, 0, 0), -1);
        Check.same("count(11)", runs.count(11), 700);
        Check.same("end(701)", runs.end(701), -1);
        Check.same("end(-1)", runs.end(-1), -1);
        Check.same("end(minimum)", runs.end(Integer.MIN_VALUE), -1);
        Check.same("end(700)", runs.end(700), 700);
        Check.same("end(681)", runs.end(681), 681);
        Check.same("feed to 701", runs.feed(0, 0, 0, 0, 0), -1);
        Check.same("end(680)", runs.end(680), 680);
        Check.same("feed to 700", runs.feed(0, 0, 0, 0, 0), 700);
        runs.end(0);
        Check.same("desk() of an empty tape", runs.desk(), 0);
    }

    private static void deskReplaces() {
        PaymentRuns runs = Check.desk(FIRST + SUPPLIER + BILL + CASH);
        Check.same("count(10)", runs.count(10), 4);
        Check.same("the tape is empty", runs.count(11), 0);
        Check.same("fails(0)", runs.fails(0), 5 + 4 * 3);
        Check.same("acts", runs.count(9), 1);
        Check.tape(runs, "desk");
        Check.same("desk() with a fault", runs.desk(), -4);
        Check.same("the tape is empty behind a fault", runs.count(11), 0);
        Check.same("fault(0)", runs.fault(0), 1);
        Check.same("fault(1)", runs.fault(1), 4);
        Check.same("the desk stays", runs.count(10), 4);
        Check.same("acts stay", runs.closed(), 1);
        Check.tape(runs, FIRST + SUPPLIER);
        Check.same("another desk", runs.desk(), 2);
        Check.same("fault(0) without", runs.fault(0), 0);
        Check.same("fault(1) without", runs.fault(1), -1);
        Check.same("nothing is done", runs.count(9), 0);
        Check.same("no bill", runs.count(7), 0);
        Check.same("no cash", runs.count(8), 0);
        Check.same("an empty tape", runs.desk(), 0);
        for (int what = 0; what <= 12; what++) {
            Check.same("count(" + what + ") without a desk", runs.count(what), 0);
        }
        Check.same("closed() without a desk", runs.closed(), -2);
    }

    private static void wordsAndBlanks() {
        read("  \n \n", 0, 0, -1);
        read("\n desk\ndays5law 2odds 1\n\ncash 9 floor4fee 3 ; \n", 1, 0, -1);
        read("desk days 0005 law 00 odds 010 cash 00009999 floor 5000 fee 200;", 1, 0, -1);
        read("deskdays 5", -4, 1, 0);
        read("deskz", -4, 1, 0);
        read("desk`", -4, 1, 4);
        read("desk{", -4, 1, 4);
        read("desk days 5/", -4, 1, 11);
        read("desk days 5:", -4, 1, 11);
        read("desk days 5 law 2 Odds 1", -4, 1, 18);
        read("desk days 5 la\tw 2", -4, 1, 12);
        read("desk days 5 law\t2", -4, 1, 15);
        read("desk days 5,", -4, 1, 11);
        read("desk days " + (char) 0xe9, -4, 1, 10);
        read("desk days " + (char) 0, -4, 1, 10);
        read("desk days -1", -4, 1, 10);
    }

    private static void bounds() {
        String[] words = {"desk days", "law", "odds", "cash", "floor", "fee"};
        int[] most = {7, 3, 10, 9999, 5000, 200};
        fields("", words, new int[] {1, 0, 0, 0, 0, 0}, most);
        fields(FIRST, new String[] {"supplier rank"}, new int[] {0}, new int[] {9});
        String[] bill = {"bill of", "sum", "off", "by", "due", "late", "held"};
        fields(FIRST + SUPPLIER + SUPPLIER, bill, new int[] {0, 1, 0, 0, 0, 0, 0},
                new int[] {1, 3000, 20, 6, 6, 99, 3000});
        fields(FIRST, new String[] {"cash", "on"}, new int[] {1, 0}, new int[] {3000, 6});
        read(FIRST + "bill of 0", -4, 2, FIRST.length() + 8);
        String held = FIRST + SUPPLIER + "bill of 0 sum 5 off 3 by 2 due 2 late 4 held ";
        read(held + "5;", 3, 0, -1);
        read(held + "6;", -4, 2, held.length());
        read(held + "99999999999999999999;", -4, 2, held.length());
        read("desk days 4294967297", -4, 2, 10);
    }

    /** A line stands by each number's least and most, and not by one beyond. */
    private static void fields(String ahead, String[] words, int[] least, int[] most) {
        int lines = ahead.isEmpty() ? 1 : ahead.split(";").length + 1;
        for (int i = 0; i < words.length; i++) {
            for (int side = 0; side < 2; side++) {
                StringBuilder text = new StringBuilder(ahead);
                int place = 0;
                int beyond = side == 0 ? least[i] - 1 : most[i] + 1;
                StringBuilder bad = new StringBuilder(ahead);
                for (int j = 0; j < words.length; j++) {
                    int number = j == i && side == 0 ? least[j] : most[j];
                    text.append(words[j]).append(' ').append(number).append(' ');
                    if (j == i) {
                        bad.append(words[j]).append(' ');
                        place = bad.length();
                        bad.append(beyond);
                    } else if (j < i) {
                        bad.append(words[j]).append(' ').append(number).append(' ');
                    }
                }
                if (!(words[0].equals("bill of") && i == 1 && side == 0)) {
                    read(text + ";", lines, 0, -1);
                }
                read(bad.toString(), -4, beyond < 0 ? 1 : 2, place);
            }
        }
    }

    private static void misplaced() {
        int n = FIRST.length();
        read(";", -4, 1, 0);
        read("7", -4, 1, 0);
        read("bill", -4, 1, 0);
        read("supplier rank 3;", -4, 1, 0);
        read(FIRST + FIRST, -4, 1, n);
        read(FIRST + ";", -4, 1, n);
        read(FIRST + "5", -4, 1, n);
        read(FIRST + "rank", -4, 1, n);
        read(FIRST + "supplierrank", -4, 1, n);
        read(FIRST + "cash on", -4, 1, n + 5);
        read(FIRST + "cash 7 in", -4, 1, n + 7);
        read(FIRST + "cash 7 on 3 on", -4, 1, n + 12);
        read(FIRST + "cash 0 X", -4, 2, n + 5);
        read(FIRST + "supplier 3", -4, 1, n + 9);
        read(FIRST + "supplier rank 3 3", -4, 1, n + 16);
        read("desk law 2", -4, 1, 5);
        read("desk days 5 odds", -4, 1, 12);
        read("desk days days", -4, 1, 10);
        read(FIRST + SUPPLIER + "bill of 0 sum 5 off 3 by 2 due 2 held 4", -4, 1, n + 16 + 33);
        read(FIRST + SUPPLIER + "bill of 0 sum 5 off 3 by 2 due 2 late 4 held 1 held", -4, 1, n + 16 + 47);
        read(FIRST.substring(0, n - 1) + " supplier", -4, 1, n);
    }

    private static void atTheEnd() {
        read("desk", -4, 1, 4);
        read("desk  \n", -4, 1, 7);
        read("desk days 5", -4, 1, 11);
        String open = FIRST.substring(0, FIRST.length() - 1);
        read(open, -4, 1, open.length());
        read(open + "  ", -4, 1, open.length() + 2);
        read(FIRST + "cash 5 on 5", -4, 1, FIRST.length() + 11);
    }

    private static void tooMany() {
        String full = FIRST + SUPPLIER.repeat(4) + BILL.repeat(5) + CASH.repeat(6);
        read(full, 16, 0, -1);
        int n = full.length();
        read(full + SUPPLIER, -4, 3, n);
        read(full + "supplier X", -4, 3, n);
        read(full + BILL, -4, 3, n);
        read(full + CASH, -4, 3, n);
        read(full + "  bill", -4, 3, n + 2);
        read(full + "bills", -4, 1, n);
        read(full + "cash", -4, 3, n);
    }

    private static void read(String text, int answer, int fault, int place) {
        PaymentRuns runs = new PaymentRuns();
        Check.tape(runs, text);
        Check.same("desk() of '" + text + "'", runs.desk(), answer);
        Check.same("fault(0) of '" + text + "'", runs.fault(0), fault);
        Check.same("fault(1) of '" + text + "'", runs.fault(1), place);
        Check.same("count(10) of '" + text + "'", runs.count(10), Math.max(0, answer));
    }
}
