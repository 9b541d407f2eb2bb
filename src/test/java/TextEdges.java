import java.nio.charset.StandardCharsets;

/** Term I with its TOKENS and FAULTS, and promises 1 to 5: each sentence at its bounds. */
final class TextEdges {
    private static final String FIRST = "desk days 5 law 2 odds 1 cash 9 floor 4 fee 3;";
    private static final String SUPPLIER = "supplier rank 3;";
    private static final String BILL = "bill of 0 sum 5 off 3 by 2 due 2 late 4;";
    private static final String CASH = "cash 7 on 4;";

    private TextEdges() {
    }

    static void all() {
        calls();
        lines();
        firstLine();
        deskBounds();
        billBounds();
        cashBounds();
        numbering();
        tokens();
        faultPlaces();
        faultOne();
        faultTwoAndThree();
        newObject();
        feed();
        end();
        desk();
        fault();
    }

    private static void calls() {
        Edge.of("head", "An object is used for at most 512 calls after it has been made;");
        PaymentRuns runs = new PaymentRuns();
        byte[] text = (Desks.PLAIN + " ".repeat(20 - Desks.PLAIN.length() % 20)).getBytes(StandardCharsets.ISO_8859_1);
        Check.tape(runs, text);
        runs.desk();
        // What was called so far: a feed for twenty bytes, an end and a desk.
        boolean done = false;
        for (int call = text.length / 20 + 2; call < 511; call++) {
            Edge.same("act behind act", done ? runs.undo() : runs.fails(2), done ? 0 : 85);
            done = !done;
        }
        Edge.same("best(), the 512th call", runs.best(), 85);
        Edge.of("head", "what later calls answer is free.");
        runs.total();
    }

    /** The text stands: so many lines, no fault. */
    private static PaymentRuns stands(String text, int lines) {
        PaymentRuns runs = Edge.busy(Desks.PLAIN);
        runs.end(0);
        Check.tape(runs, text);
        Edge.same("desk() of '" + text + "'", runs.desk(), lines);
        Edge.same("fault(0) of '" + text + "'", runs.fault(0), 0);
        Edge.same("fault(1) of '" + text + "'", runs.fault(1), -1);
        Edge.same("count(10) of '" + text + "'", runs.count(10), lines);
        return runs;
    }

    /** The text has a fault at a place: the desk, its acts, images and rows stay. */
    private static void falls(String text, int fault, int place) {
        PaymentRuns runs = Edge.busy(Desks.PLAIN);
        runs.fails(0);
        runs.end(0);
        String before = Edge.told(runs);
        Check.tape(runs, text);
        Edge.same("desk() of '" + text + "'", runs.desk(), -4);
        Edge.same("fault(0) of '" + text + "'", runs.fault(0), fault);
        Edge.same("fault(1) of '" + text + "'", runs.fault(1), place);
        String behind = Edge.told(runs);
        String faults = " " + fault + " " + place;
        Edge.isTrue("'" + text + "' leaves all as it was: " + behind, behind.equals(before.replaceAll(" 0 -1$", faults)));
        Edge.same("the image stays", runs.back(1), 0);
        Edge.same("as it was kept", runs.total(), 85);
    }

    private static void lines() {
        Edge.of("I", "DESK: {LINE ;}.");
        stands("", 0);
        stands(FIRST, 1);
        stands(FIRST + SUPPLIER, 2);
        falls(FIRST.substring(0, FIRST.length() - 1), 1, FIRST.length() - 1);
        falls(FIRST + ";", 1, FIRST.length());
        falls(";", 1, 0);
        Edge.of("I", "LINE: desk days N law N odds N cash N floor N fee N | supplier rank N"
                + " | bill of N sum N off N by N due N late N [held N] | cash N on N.");
        String[][] lines = {{"", FIRST}, {FIRST, SUPPLIER}, {FIRST + SUPPLIER, BILL},
            {FIRST + SUPPLIER, BILL.replace(";", " held 1;")}, {FIRST, CASH}};
        for (String[] line : lines) {
            everyToken(line[0], line[1]);
            everyLetter(line[0], line[1]);
        }
    }

    /** A word with another letter, without one or with one twice is another word. */
    private static void everyLetter(String ahead, String line) {
        for (int i = 0; i < line.length(); i++) {
            char letter = line.charAt(i);
            if (letter >= 'a' && letter <= 'z') {
                int word = ahead.length() + line.lastIndexOf(' ', i) + 1;
                String head = ahead + line.substring(0, i);
                String tail = line.substring(i + 1);
                falls(head + (letter == 'z' ? 'a' : (char) (letter + 1)) + tail, 1, word);
                falls(head + tail, 1, word);
                falls(head + letter + letter + tail, 1, word);
            }
        }
    }

    /** A line stands; without one of its tokens, or with one twice, the token behind has no place there. */
    private static void everyToken(String ahead, String line) {
        stands(ahead + line, ahead.split(";").length + (ahead.isEmpty() ? 0 : 1));
        String[] tokens = line.replace(";", " ;").split(" ");
        for (int i = 0; i < tokens.length; i++) {
            StringBuilder without = new StringBuilder(ahead);
            StringBuilder twice = new StringBuilder(ahead);
            int gap = 0;
            int second = 0;
            for (int j = 0; j < tokens.length; j++) {
                gap = j == i ? without.length() : gap;
                without.append(j == i ? "" : tokens[j] + " ");
                twice.append(tokens[j]).append(' ');
                if (j == i) {
                    second = twice.length();
                    twice.append(tokens[j]).append(' ');
                }
            }
            falls(without.toString(), 1, gap);
            falls(twice.toString(), 1, second);
        }
    }

    private static void firstLine() {
        Edge.of("I", "desk is the first LINE and no other:");
        stands(FIRST, 1);
        falls(FIRST + FIRST, 1, FIRST.length());
        falls(FIRST + SUPPLIER + FIRST, 1, FIRST.length() + SUPPLIER.length());
        falls(SUPPLIER + FIRST, 1, 0);
        falls(CASH + FIRST, 1, 0);
    }

    /** A number (#) of the last line, one step inside its bounds, at them, one step outside. */
    private static void bounds(String text, int least, int most, Edge.Asked told) {
        int lines = text.split(";").length;
        int place = text.indexOf('#');
        for (int n : new int[] {least, least + 1, most - 1, most}) {
            PaymentRuns runs = stands(text.replace("#", "" + n), lines);
            Edge.same("told in '" + text + "'", told.of(runs), n);
        }
        String below = text.replace("#", "" + (least - 1));
        falls(below, least == 0 ? 1 : 2, place);
        falls(text.replace("#", "" + (most + 1)), 2, place);
        falls(text.replace("#", "4294967296"), 2, place);
        falls(text.replace("#", "1" + "0".repeat(40)), 2, place);
        falls(text.replace("#", ""), 1, text.startsWith("#;", place) ? place : place + 1);
    }

    private static void deskBounds() {
        String[] words = {"days 1 .. 7", "law 0 .. 3", "odds 0 .. 10", "cash 0 .. 9,999", "floor 0 .. 5,000", "fee 0 .. 200"};
        int[] least = {1, 0, 0, 0, 0, 0};
        int[] most = {7, 3, 10, 9999, 5000, 200};
        for (int i = 0; i < words.length; i++) {
            int what = i;
            String word = words[i].substring(0, words[i].indexOf(' '));
            Edge.of("I", words[i]);
            bounds(FIRST.replaceAll(word + " [0-9]+", word + " #"), least[i], most[i], runs -> runs.count(what));
        }
        Edge.of("I", "rank 0 .. 9.");
        bounds(FIRST + SUPPLIER + "supplier rank #;", 0, 9, runs -> runs.rank(1));
    }

    private static void billBounds() {
        Edge.of("I", "bill: of a SUPPLIER told ahead,");
        String of = "bill of # sum 5 off 3 by 2 due 2 late 4;";
        falls(FIRST + of.replace("#", "0"), 2, FIRST.length() + 8);
        falls(FIRST + of.replace("#", "0") + SUPPLIER, 2, FIRST.length() + 8);
        Edge.same("of", stands(FIRST + SUPPLIER + of.replace("#", "0"), 3).bill(0, 0), 0);
        falls(FIRST + SUPPLIER + of.replace("#", "1") + SUPPLIER, 2, FIRST.length() + SUPPLIER.length() + 8);
        bounds(FIRST + SUPPLIER.repeat(2) + of, 0, 1, runs -> runs.bill(0, 0));
        bounds(FIRST + SUPPLIER.repeat(4) + of, 0, 3, runs -> runs.bill(0, 0));
        String[] words = {"sum 1 .. 3,000", "off 0 .. 20", "by 0 .. 6", "due 0 .. 6", "late 0 .. 99"};
        int[] least = {1, 0, 0, 0, 0};
        int[] most = {3000, 20, 6, 6, 99};
        for (int i = 0; i < words.length; i++) {
            int what = i + 1;
            String word = words[i].substring(0, words[i].indexOf(' '));
            Edge.of("I", words[i]);
            bounds(FIRST + SUPPLIER + BILL.replaceAll(word + " [0-9]+", word + " #"), least[i], most[i],
                    runs -> runs.bill(0, what));
        }
        Edge.of("I", "held 0 to its sum (0 without).");
        for (int sum : new int[] {5, 3000}) {
            String text = FIRST + SUPPLIER + BILL.replace("sum 5", "sum " + sum).replace(";", " held #;");
            bounds(text, 0, sum, runs -> runs.bill(0, 6));
        }
        String one = FIRST + SUPPLIER + BILL.replace("sum 5", "sum 1");
        Edge.same("held of 1", stands(one.replaceAll(";$", " held 1;"), 3).bill(0, 6), 1);
        falls(one.replaceAll(";$", " held 2;"), 2, one.length() + 5);
        Edge.same("without", stands(FIRST + SUPPLIER + BILL, 3).bill(0, 6), 0);
        // What another bill at this place had held must not be left.
        PaymentRuns runs = stands(FIRST + SUPPLIER + BILL.replace(";", " held 4;"), 3);
        Check.tape(runs, FIRST + SUPPLIER + BILL);
        runs.desk();
        Edge.same("without, behind another desk", runs.bill(0, 6), 0);
        Edge.same("net without", runs.net(0), 5);
    }

    private static void cashBounds() {
        Edge.of("I", "cash: 1 .. 3,000,");
        bounds(FIRST + "cash # on 0;", 1, 3000, runs -> runs.comes(0));
        Edge.of("I", "on a day 0 .. 6");
        String seven = FIRST.replace("days 5", "days 7");
        bounds(seven + "cash 7 on #;", 0, 6, TextEdges::dayOfSeven);
        Edge.of("I", "(one beyond the last never comes).");
        for (int on = 0; on < 7; on++) {
            PaymentRuns runs = stands(Edge.desk(3, 0, 5, 10, 0, 0) + Edge.supplier(0) + Edge.bill(0, 17, 0, 0, 6, 1)
                    + Edge.cash(7, on), 4);
            int came = on < 3 ? 7 : 0;
            Edge.same("comes in all, on " + on, runs.comes(0) + runs.comes(1) + runs.comes(2), came);
            Edge.same("the bill is paid with it, on " + on, runs.open(), on < 3 ? 0 : 1);
            Edge.same("cash(2), on " + on, runs.cash(2), on < 3 ? 0 : 10);
            Edge.same("chance, below, on " + on, runs.chance(0, 1), on < 3 ? 2 : 1);
            Edge.same("chance, above, on " + on, runs.chance(0, 0), on < 3 ? 1 : 0);
            Edge.same("need(), on " + on, runs.need(), on < 3 ? 10 : 17);
            Edge.same("count(8), on " + on, runs.count(8), 1);
        }
    }

    /** The day on which 7 come; -1: on none, or not 7. */
    private static long dayOfSeven(PaymentRuns runs) {
        int day = -1;
        for (int d = 0; d < 7; d++) {
            day = runs.comes(d) == 7 ? d : day;
        }
        return day;
    }

    private static void numbering() {
        Edge.of("I", "SUPPLIERS 0 .. 3, BILLS 0 .. 4 are numbered as they stand;");
        PaymentRuns runs = stands(FIRST + Edge.supplier(4) + Edge.bill(0, 11, 1, 1, 1, 1) + Edge.cash(31, 0) + Edge.supplier(6)
                + Edge.bill(1, 12, 1, 1, 1, 1) + Edge.bill(0, 13, 1, 1, 1, 1) + Edge.supplier(5) + Edge.cash(32, 4)
                + Edge.supplier(7) + Edge.bill(3, 14, 1, 1, 1, 1) + Edge.bill(2, 15, 1, 1, 1, 1), 12);
        int[] ranks = {4, 6, 5, 7};
        for (int s = 0; s < 4; s++) {
            Edge.same("rank(" + s + ")", runs.rank(s), ranks[s]);
        }
        int[] owners = {0, 1, 0, 3, 2};
        for (int b = 0; b < 5; b++) {
            Edge.same("sum of " + b, runs.bill(b, 1), 11 + b);
            Edge.same("supplier of " + b, runs.bill(b, 0), owners[b]);
        }
        Edge.same("rank(4)", runs.rank(4), -2);
        Edge.same("bill(5, 0)", runs.bill(5, 0), -2);
        Edge.of("I", "LINES of cash are 6 at most.");
        for (int n = 0; n <= 6; n++) {
            Edge.same("comes(4)", stands(FIRST + CASH.repeat(n), n + 1).comes(4), 7 * n);
        }
        falls(FIRST + CASH.repeat(7), 3, FIRST.length() + 6 * CASH.length());
        Edge.of("I", "Days 0 to days less 1.");
        for (int days = 1; days <= 7; days++) {
            int d = days;
            Edge.range("comes, days " + days, () -> Check.desk(Edge.desk(d, 0, 0, 0, 0, 0)), days, PaymentRuns::comes, -2);
            Edge.range("cash, days " + days, () -> Check.desk(Edge.desk(d, 0, 0, 0, 0, 0)), days, PaymentRuns::cash, -100000);
        }
    }

    private static void tokens() {
        Edge.of("TOKENS", "TOKENS, blanks (32, 10) aside,");
        stands(" \n " + FIRST.replace(" ", "\n") + " \n" + SUPPLIER.replace(" ", " \n ") + "\n\n", 2);
        stands("  \n", 0);
        stands(FIRST.replace("fee 3;", "fee 3 \n ;"), 1);
        falls(FIRST.replace("cash 9", "ca sh 9"), 1, FIRST.indexOf("cash"));
        falls(FIRST.replace("cash 9", "cash 9 9"), 1, FIRST.indexOf("floor"));
        Edge.of("TOKENS", "the longest:");
        stands("desk days5law2odds1cash9floor4fee3;supplier rank3;", 2);
        Edge.same("digits together", stands(FIRST.replace("cash 9", "cash 9876"), 1).count(3), 9876);
        falls("deskdays 5", 1, 0);
        falls(FIRST + "supplierrank 3;", 1, FIRST.length());
        falls(FIRST.replace("fee 3", "feed 3"), 1, FIRST.indexOf("fee"));
        falls(FIRST.replace("fee 3", "fe 3"), 1, FIRST.indexOf("fee"));
        everyByte();
        Edge.of("TOKENS", "numbers (digits),");
        Edge.same("noughts ahead", stands(FIRST.replace("cash 9", "cash 0000000000000009"), 1).count(3), 9);
        Edge.same("noughts alone", stands(FIRST.replace("cash 9", "cash 000000"), 1).count(3), 0);
        for (char digit = '0'; digit <= '9'; digit++) {
            Edge.same("digit", stands(FIRST.replace("cash 9", "cash 1" + digit), 1).count(3), 10 + digit - '0');
        }
    }

    /** Each of the 256 bytes ahead of the sign of a line that is whole but for it. */
    private static void everyByte() {
        String open = FIRST.substring(0, FIRST.length() - 1);
        for (int sign = 0; sign < 256; sign++) {
            String text = open + (char) sign + ";";
            if (sign == 32 || sign == 10) {
                Edge.of("TOKENS", "TOKENS, blanks (32, 10) aside,");
                stands(text, 1);
            } else if (sign >= '0' && sign <= '9') {
                Edge.of("TOKENS", "numbers (digits),");
                Edge.same("fee", stands(text, 1).count(5), 30 + sign - '0');
            } else if (sign == ';') {
                Edge.of("TOKENS", "the sign ; .");
                falls(text, 1, open.length() + 1);
            } else {
                Edge.of("TOKENS", "words (a .. z),");
                falls(text, 1, open.length());
                // One word with what is ahead of it, if it is a letter; else a token that is none.
                boolean isLetter = sign >= 'a' && sign <= 'z';
                falls(FIRST.replace("fee", "fee" + (char) sign), 1, FIRST.indexOf("fee") + (isLetter ? 0 : 3));
            }
        }
        Edge.of("TOKENS", "the sign ; .");
        stands(open + ";", 1);
        falls(open + ":", 1, open.length());
        falls(open + "<", 1, open.length());
    }

    private static void faultPlaces() {
        Edge.of("FAULTS", "FAULTS, the first by its place");
        falls(FIRST.replace("days 5", "days 8").replace("law 2", "X"), 2, FIRST.indexOf('5'));
        falls(FIRST.replace("days 5", "X 5").replace("law 2", "law 4"), 1, FIRST.indexOf("days"));
        falls(FIRST.replace("days 5", "days 8").replace("law 2", "law 4"), 2, FIRST.indexOf('5'));
        falls(FIRST + SUPPLIER.repeat(5) + "X", 3, FIRST.length() + 4 * SUPPLIER.length());
        falls(FIRST + "X" + SUPPLIER.repeat(5), 1, FIRST.length());
        falls(FIRST + CASH.repeat(7) + SUPPLIER.repeat(5), 3, FIRST.length() + 6 * CASH.length());
        Edge.of("FAULTS", "(a TOKEN's first byte; the end's),");
        falls("  desks", 1, 2);
        falls("desk days  99;", 2, 11);
        falls("desk days  0", 2, 11);
        falls("desk", 1, 4);
        falls("desk ", 1, 5);
        falls("desk days 5\n\n", 1, 13);
        falls(FIRST + "cash", 1, FIRST.length() + 4);
        String most = FIRST + " ".repeat(700 - FIRST.length() - 4) + "cash";
        falls(most, 1, 700);
        falls(FIRST + " ".repeat(700 - FIRST.length() - 7) + "cash on", 1, 698);
        Edge.of("FAULTS", "of one place the least:");
        falls("desk 99999", 1, 5);
        falls(FIRST + "99999", 1, FIRST.length());
        falls(FIRST + SUPPLIER.repeat(4) + "cash supplier", 1, FIRST.length() + 4 * SUPPLIER.length() + 5);
        falls(FIRST + SUPPLIER + BILL.repeat(5) + "cash 7 bill", 1, FIRST.length() + SUPPLIER.length() + 5 * BILL.length() + 7);
        falls(FIRST + CASH.repeat(6) + "supplier cash", 1, FIRST.length() + 6 * CASH.length() + 9);
    }

    private static void faultOne() {
        Edge.of("FAULTS", "1 a TOKEN that is none,");
        for (String none : new String[] {"-", "A", "Z", ",", ".", "\t", "\r", "\u0000", "\u007f", "\u0080", "\u00ff", "#"}) {
            falls(none, 1, 0);
            falls(none + FIRST, 1, 0);
            falls(FIRST + none, 1, FIRST.length());
            falls(FIRST.replace("law", none + "law"), 1, FIRST.indexOf("law"));
            falls(FIRST.replace("law 2", "law " + none + "2"), 1, FIRST.indexOf("law") + 4);
        }
        Edge.of("FAULTS", "or can't stand there");
        falls(FIRST + "bill of of", 1, FIRST.length() + 8);
        falls(FIRST + "cash 5 6", 1, FIRST.length() + 7);
        falls(FIRST + "cash 5;", 1, FIRST.length() + 6);
        falls(FIRST + SUPPLIER + BILL.replace(";", " held;"), 1, FIRST.length() + SUPPLIER.length() + BILL.length() + 4);
        falls(FIRST + SUPPLIER + BILL.replace(";", " keep 1;"), 1, FIRST.length() + SUPPLIER.length() + BILL.length());
        falls(FIRST + "cash 5 on 1 held 0;", 1, FIRST.length() + 12);
        falls(FIRST + "days 5;", 1, FIRST.length());
        Edge.of("FAULTS", "(desk behind the first LINE, another word ahead of it).");
        falls(FIRST + "desk", 1, FIRST.length());
        falls(FIRST + SUPPLIER + BILL + CASH + " desk", 1, (FIRST + SUPPLIER + BILL + CASH).length() + 1);
        for (String word : new String[] {"supplier", "bill", "cash", "days", "a", "des", "deskx"}) {
            falls(" " + word + " " + FIRST, 1, 1);
        }
    }

    private static void faultTwoAndThree() {
        Edge.of("FAULTS", "2 a number out of its bounds, not as said.");
        stands(FIRST.replace("days 5", "days 7"), 1);
        falls(FIRST.replace("days 5", "days 8"), 2, 10);
        falls(FIRST + SUPPLIER + BILL.replace(";", " held 6;"), 2, (FIRST + SUPPLIER + BILL).length() + 5);
        falls(FIRST + SUPPLIER + BILL.replace("of 0", "of 1"), 2, (FIRST + SUPPLIER).length() + 8);
        String ahead = FIRST + SUPPLIER + BILL + CASH;
        String[] lines = {SUPPLIER, BILL, CASH};
        String[] words = {"3 a 5th supplier,", "6th bill,", "7th cash (as a LINE),"};
        int[] most = {4, 5, 6};
        for (int i = 0; i < 3; i++) {
            Edge.of("FAULTS", words[i]);
            String full = ahead + lines[i].repeat(most[i] - 1);
            stands(ahead + lines[i].repeat(most[i] - 2), 4 + most[i] - 2);
            Edge.same("all are there", stands(full, 4 + most[i] - 1).count(6 + i), most[i]);
            falls(full + lines[i], 3, full.length());
            falls(full + " \n" + lines[i], 3, full.length() + 2);
            Edge.of("FAULTS", "at its word.");
            String word = lines[i].substring(0, lines[i].indexOf(' '));
            falls(full + word, 3, full.length());
            falls(full + word + " X", 3, full.length());
            falls(full + word + " 99999", 3, full.length());
            falls(full + word + "x", 1, full.length());
            falls(full + word.substring(1), 1, full.length());
        }
    }

    private static void newObject() {
        Edge.of("1", "No DESK.");
        PaymentRuns runs = new PaymentRuns();
        for (int what = 0; what <= 12; what++) {
            Edge.same("count(" + what + ")", runs.count(what), 0);
        }
        Edge.same("closed()", runs.closed(), -2);
        Edge.same("total()", runs.total(), -2);
        Edge.same("room()", runs.room(), -100000);
        Edge.same("undo()", runs.undo(), -2);
        Edge.same("as one whose desk has no LINES", Check.desk("").closed(), -2);
        for (int k = 0; k < 3; k++) {
            Edge.same("back(" + k + ")", runs.back(k), -6);
        }
        for (int slot = 0; slot < 4; slot++) {
            Edge.same("write(" + slot + ", 0, 0)", runs.write(slot, 0, 0), -6);
        }
    }

    private static void feed() {
        Edge.of("2", "Twenty bytes come behind the TAPE, four of each number, the highest first: how many it has;");
        int blank = 0x20202020;
        for (int i = 0; i < 20; i++) {
            int[] five = {blank, blank, blank, blank, blank};
            five[i / 4] ^= (0x20 ^ 'X') << 24 - 8 * (i % 4);
            PaymentRuns runs = new PaymentRuns();
            Edge.same("feed, the first", runs.feed(blank, blank, blank, blank, blank), 20);
            Edge.same("feed, the second", runs.feed(five[0], five[1], five[2], five[3], five[4]), 40);
            Edge.same("desk()", runs.desk(), -4);
            Edge.same("place of byte " + i, runs.fault(1), 20 + i);
        }
        for (int number : new int[] {-1, 0, Edge.MIN, Edge.MAX}) {
            Edge.same("feed of " + number, new PaymentRuns().feed(number, number, number, number, number), 20);
        }
        Edge.of("2", "NONE, and none come, if it would have more than 700.");
        for (int length : new int[] {679, 680, 681, 699, 700}) {
            Edge.same("fed to " + length, tapeOf(length).count(11), length);
            if (length <= 680) {
                PaymentRuns runs = tapeOf(length);
                Edge.same("feed behind " + length, runs.feed(blank, blank, blank, blank, 0x20202058), length + 20);
                Edge.same("desk()", runs.desk(), -4);
                Edge.same("its last byte", runs.fault(1), length + 19);
            } else {
                Edge.refused("feed behind " + length, () -> tapeOf(length), r -> r.feed('X', 'X', 'X', 'X', 'X'), -1);
            }
        }
        PaymentRuns runs = tapeOf(700);
        runs.feed(-1, -1, -1, -1, -1);
        Edge.same("desk() behind a refused feed", runs.desk(), 1);
    }

    /** A desk and blanks behind it. */
    private static PaymentRuns tapeOf(int length) {
        PaymentRuns runs = new PaymentRuns();
        Check.tape(runs, FIRST + " ".repeat(length - FIRST.length()));
        return runs;
    }

    private static void end() {
        Edge.of("3", "The TAPE has its first n bytes alone: n;");
        for (int n : new int[] {0, 1, 99, 100}) {
            PaymentRuns runs = tapeOf(100);
            Edge.same("end(" + n + ")", runs.end(n), n);
            Edge.same("count(11)", runs.count(11), n);
        }
        PaymentRuns cut = tapeOf(100);
        cut.end(FIRST.length() - 1);
        Edge.same("desk() without its sign", cut.desk(), -4);
        Edge.same("fault(1)", cut.fault(1), FIRST.length() - 1);
        // What was cut off must not come back.
        PaymentRuns again = tapeOf(100);
        again.end(0);
        again.feed(0x20202020, 0x20202020, 0x20202020, 0x20202020, 0x20202020);
        Edge.same("end(21)", again.end(21), -1);
        Edge.same("desk() of blanks", again.desk(), 0);
        Edge.of("3", "NONE, and nothing happens, if it has not so many, or n is below 0.");
        for (int n : new int[] {-1, Edge.MIN, 101, 102, 700, 701, Edge.MAX}) {
            Edge.refused("end(" + n + ")", () -> tapeOf(100), runs -> runs.end(n), -1);
        }
        Edge.refused("end(1) of an empty tape", PaymentRuns::new, runs -> runs.end(1), -1);
        Edge.same("end(0) of an empty tape", new PaymentRuns().end(0), 0);
    }

    private static void desk() {
        Edge.of("4", "The TAPE (empty then) is the DESK (in place of another), nothing done: how many LINES");
        PaymentRuns runs = Edge.busy(Desks.PLAIN);
        runs.frees(1);
        runs.fails(1);
        Edge.same("desk() of one LINE", runs.desk(), 1);
        Edge.same("the tape", runs.count(11), 0);
        int[] due = {2, 1, 4, 3, 9, 5, 0, 0, 0, 0, 1};
        for (int what = 0; what < due.length; what++) {
            Edge.same("count(" + what + ")", runs.count(what), due[what]);
        }
        Edge.same("closed()", runs.closed(), 0);
        Edge.same("undo(), nothing done", runs.undo(), -5);
        Check.tape(runs, Desks.PLAIN);
        Edge.same("desk() of seven LINES", runs.desk(), 7);
        Edge.same("net(1), nothing done", runs.net(1), 40);
        String most = FIRST + SUPPLIER.repeat(4) + BILL.repeat(5) + CASH.repeat(6);
        Check.tape(runs, most);
        Edge.same("desk() of all LINES", runs.desk(), 16);
        Check.tape(runs, most + " ".repeat(700 - most.length()));
        Edge.same("desk() of 700 bytes", runs.desk(), 16);
        Edge.of("4", "(0: there is none then).");
        for (String none : new String[] {"", " ", "\n \n"}) {
            PaymentRuns had = Edge.busy(Desks.PLAIN);
            had.end(0);
            Check.tape(had, most.replace("law 2", "law 3"));
            had.desk();
            had.fails(0);
            Check.tape(had, none);
            Edge.same("desk() of none", had.desk(), 0);
            for (int what = 0; what <= 11; what++) {
                Edge.same("count(" + what + ")", had.count(what), 0);
            }
            Edge.same("closed()", had.closed(), -2);
            Edge.same("rank(0)", had.rank(0), -2);
            Edge.same("bill(0, 0)", had.bill(0, 0), -2);
            Edge.same("undo()", had.undo(), -2);
            Edge.same("rows stay", had.count(12), 2);
            Edge.same("images stay", had.back(1), 0);
            Edge.same("as the image has it", had.total(), 85);
        }
        Edge.of("4", "-4: a FAULT (all stays).");
        falls("X", 1, 0);
        falls(FIRST + SUPPLIER + BILL + "cash 0", 2, (FIRST + SUPPLIER + BILL).length() + 5);
        PaymentRuns twice = Edge.busy(Desks.PLAIN);
        twice.end(4);
        Edge.same("desk() with a fault", twice.desk(), -4);
        Edge.same("the tape is empty then, too", twice.count(11), 0);
        Edge.same("desk() again", twice.desk(), 0);
    }

    private static void fault() {
        Edge.of("5", "Of the latest desk(), what 0: its FAULT, 0 without, 1: its place (NONE without).");
        PaymentRuns runs = new PaymentRuns();
        String[] texts = {"desk days 8", FIRST, " X", "", FIRST + SUPPLIER.repeat(5), FIRST + SUPPLIER};
        int[][] due = {{2, 10}, {0, -1}, {1, 1}, {0, -1}, {3, FIRST.length() + 4 * SUPPLIER.length()}, {0, -1}};
        for (int i = 0; i < texts.length; i++) {
            Check.tape(runs, texts[i]);
            Edge.same("fault(0) ahead of desk()", runs.fault(0), i == 0 ? 0 : due[i - 1][0]);
            runs.desk();
            Edge.same("fault(0) of '" + texts[i] + "'", runs.fault(0), due[i][0]);
            Edge.same("fault(1) of '" + texts[i] + "'", runs.fault(1), due[i][1]);
            runs.image(0);
            runs.back(0);
            runs.anew();
            Edge.same("fault(0) behind other calls", runs.fault(0), due[i][0]);
            Edge.same("fault(1) behind other calls", runs.fault(1), due[i][1]);
        }
        Edge.of("5", "NONE for another what, and ahead of any (what 1).");
        for (int what : new int[] {-1, 2, 3, Edge.MIN, Edge.MAX}) {
            Edge.same("fault(" + what + ") ahead of any", new PaymentRuns().fault(what), -1);
            Edge.same("fault(" + what + ")", runs.fault(what), -1);
            Check.tape(runs, "X");
            runs.desk();
            Edge.same("fault(" + what + ") behind a fault", runs.fault(what), -1);
        }
        Edge.same("fault(1) ahead of any", new PaymentRuns().fault(1), -1);
        Edge.same("fault(0) ahead of any", new PaymentRuns().fault(0), 0);
        PaymentRuns fed = new PaymentRuns();
        Check.tape(fed, "X");
        Edge.same("fault(0) of a tape that was not read", fed.fault(0), 0);
        Edge.same("fault(1) of a tape that was not read", fed.fault(1), -1);
    }
}
