/** Payment run planner: ../shared/DOC.md has the promises, ../shared/LANGUAGE.md the rules of this file. */
public final class PaymentRuns {
    public static final int NONE = -1;

    private static final int NO_SUCH = -2;
    private static final int BELOW_ZERO = -3;
    private static final int FAULTY = -4;
    private static final int NOT_NOW = -5;
    private static final int NOTHING = -6;
    private static final int BEYOND = -7;
    private static final int OTHER_WIDTH = -8;
    private static final int NOT_PAID = -100;
    private static final int NO_SUCH_EARLY = -200;
    private static final int NO_SUCH_CASH = -100000;
    private static final int NO_SUCH_SHARE = -1000000;

    private static final int TAPE_BYTES = 700;
    private static final int DAYS = 7;
    private static final int SUPPLIERS = 4;
    private static final int BILLS = 5;
    private static final int INCOMES = 6;
    private static final int ACTS = 20;
    private static final int IMAGES = 3;
    private static final int SLOTS = 4;
    private static final int ROW_NUMBERS = 60;
    private static final int LAWS = 4;
    private static final int LAW_OF_RATE = 1;
    private static final int OFFS = 21;
    private static final int MOST_RANK = 9;
    private static final int MOST_CASH = 9999;
    private static final int MOST_FLOOR = 5000;
    private static final int MOST_SEED = 2000000000;
    private static final int MOST_WEEKS = 20;
    private static final int GREATEST = 2147483647;

    // What is told of a bill, numbered as promise 7 numbers it.
    private static final int OF = 0;
    private static final int SUM = 1;
    private static final int OFF = 2;
    private static final int BY = 3;
    private static final int DUE = 4;
    private static final int LATE = 5;
    private static final int HELD = 6;
    private static final int TOLD = 7;

    private final Tape tape;
    private final Week week;
    private final Desk desk;
    private final Desk[] images;
    private final boolean[] kept;
    private final Rows rows;
    private final Search search;
    private final Seen seen;
    private final Shares shares;
    private final Game game;
    private final Odds odds;

    public PaymentRuns() {
        tape = new Tape();
        week = new Week();
        desk = week.desk;
        images = new Desk[IMAGES];
        for (int k = 0; k < IMAGES; k++) {
            images[k] = new Desk();
        }
        kept = new boolean[IMAGES];
        rows = new Rows();
        search = new Search();
        seen = new Seen();
        shares = new Shares();
        game = new Game();
        odds = new Odds();
    }

    // Promises 2 to 5: the tape.

    public int feed(int a, int b, int c, int d, int e) {
        if (tape.length + 20 > TAPE_BYTES) {
            return NONE;
        }
        tape.add(a);
        tape.add(b);
        tape.add(c);
        tape.add(d);
        tape.add(e);
        return tape.length;
    }

    public int end(int n) {
        if (n < 0 || n > tape.length) {
            return NONE;
        }
        tape.length = n;
        return n;
    }

    public int desk() {
        tape.read();
        if (tape.fault != 0) {
            return FAULTY;
        }
        desk.become(tape.draft);
        return desk.lines;
    }

    public int fault(int what) {
        if (what == 0) {
            return tape.fault;
        }
        return what == 1 ? tape.faultPlace : NONE;
    }

    // Promises 6 to 13: what is told, and what acts made of it.

    public int rank(int supplier) {
        return isSupplier(supplier) ? desk.rank[supplier] : NO_SUCH;
    }

    public int bill(int bill, int what) {
        if (!isBill(bill) || what < 0 || what >= TOLD) {
            return NO_SUCH;
        }
        return desk.told[bill][what];
    }

    public int net(int bill) {
        return isBill(bill) ? desk.netOf(bill) : NO_SUCH;
    }

    public int costs(int bill, int day) {
        if (!isBill(bill) || day < 0 || day > desk.days) {
            return NO_SUCH;
        }
        week.asTold();
        return week.price(bill, day);
    }

    public int comes(int day) {
        return isDay(day) ? desk.incomeOn(day) : NO_SUCH;
    }

    public int closed() {
        return isThere() ? desk.closedDays() : NO_SUCH;
    }

    public int rate(int bill, int what) {
        if (!isBill(bill) || !isPart(what)) {
            return NO_SUCH;
        }
        week.asTold();
        return (int) partOf(week.gain(bill), week.span(bill), what);
    }

    public int worthy() {
        if (!isThere()) {
            return NO_SUCH;
        }
        planByOtherLaw(LAW_OF_RATE);
        return week.ordered > 0 ? week.order[0] : NONE;
    }

    // Promises 14 to 31: the week by law.

    public int day(int bill) {
        return isBill(bill) ? byLaw().day[bill] : NO_SUCH;
    }

    public int order(int i) {
        if (i < 0 || !isThere()) {
            return NO_SUCH;
        }
        return i < byLaw().ordered ? week.order[i] : NONE;
    }

    public int file(int day) {
        return isDay(day) ? byLaw().files[day] : NO_SUCH;
    }

    public int pays(int day) {
        return isDay(day) ? byLaw().paidOn(day) : NO_SUCH;
    }

    public int cash(int day) {
        return isDay(day) ? byLaw().behind[day] : NO_SUCH_CASH;
    }

    public int room() {
        if (!isThere()) {
            return NO_SUCH_CASH;
        }
        return byLaw().behind[week.tightest()] - desk.floor;
    }

    public int tight() {
        return isThere() ? byLaw().tightest() : NO_SUCH;
    }

    public int fees() {
        return isThere() ? byLaw().allFees() : NO_SUCH;
    }

    public int open() {
        return isThere() ? byLaw().unpaid() : NO_SUCH;
    }

    public int caught() {
        if (!isThere()) {
            return NO_SUCH;
        }
        byLaw();
        int bits = 0;
        for (int b = 0; b < desk.bills; b++) {
            if (desk.told[b][OFF] > 0 && week.isCaught(b)) {
                bits |= 1 << b;
            }
        }
        return bits;
    }

    public int late() {
        if (!isThere()) {
            return NO_SUCH;
        }
        byLaw();
        int bits = 0;
        for (int b = 0; b < desk.bills; b++) {
            if (week.day[b] > desk.told[b][DUE]) {
                bits |= 1 << b;
            }
        }
        return bits;
    }

    public int saved() {
        if (!isThere()) {
            return NO_SUCH;
        }
        byLaw();
        int sum = 0;
        for (int b = 0; b < desk.bills; b++) {
            sum += week.isCaught(b) ? week.gain(b) : 0;
        }
        return sum;
    }

    public int lost() {
        if (!isThere()) {
            return NO_SUCH;
        }
        byLaw();
        int sum = 0;
        for (int b = 0; b < desk.bills; b++) {
            sum += week.penalty(b, week.dayOrLast(b));
        }
        return sum;
    }

    public int total() {
        return isThere() ? byLaw().whole() : NO_SUCH;
    }

    public int early(int bill) {
        if (!isBill(bill)) {
            return NO_SUCH_EARLY;
        }
        return byLaw().isPaid(bill) ? desk.told[bill][DUE] - week.day[bill] : NOT_PAID;
    }

    public int gets(int supplier) {
        return isSupplier(supplier) ? byLaw().paidTo(supplier) : NO_SUCH;
    }

    public int dear() {
        if (!isThere()) {
            return NO_SUCH;
        }
        byLaw();
        int first = NONE;
        int most = -1;
        for (int s = 0; s < desk.suppliers; s++) {
            int paid = week.paidTo(s);
            if (paid > most) {
                most = paid;
                first = s;
            }
        }
        return first;
    }

    public int busy() {
        if (!isThere()) {
            return NO_SUCH;
        }
        byLaw();
        int first = NONE;
        int most = 0;
        for (int d = 0; d < desk.days; d++) {
            int paid = Integer.bitCount(week.files[d]);
            if (paid > most) {
                most = paid;
                first = d;
            }
        }
        return first;
    }

    // Promises 32 to 41: plans.

    public int lawful(int slot) {
        int refused = refusedPlan(slot);
        if (refused != 0) {
            return refused;
        }
        layPlan(slot);
        return week.isLawful() ? 1 : 0;
    }

    public int sums(int slot) {
        int refused = refusedPlan(slot);
        if (refused != 0) {
            return refused;
        }
        layPlan(slot);
        return week.whole();
    }

    public int falls(int slot) {
        int refused = refusedPlan(slot);
        if (refused != 0) {
            return refused;
        }
        layPlan(slot);
        for (int d = 0; d < desk.days; d++) {
            if (week.behind[d] < desk.floor) {
                return d;
            }
        }
        return NONE;
    }

    public int best() {
        return isThere() ? leastOfAll() : NO_SUCH;
    }

    public int choice(int bill) {
        if (!isBill(bill)) {
            return NO_SUCH;
        }
        leastOfAll();
        int day = search.found[bill];
        return day < desk.days ? day : NONE;
    }

    public int waste() {
        if (!isThere()) {
            return NO_SUCH;
        }
        int byLaw = byLaw().whole();
        return byLaw - leastOfAll();
    }

    public int batch() {
        if (!isThere()) {
            return NO_SUCH;
        }
        int least = idle();
        for (int d = 0; d < desk.days; d++) {
            least = Math.min(least, leastOnDay(d));
        }
        return least;
    }

    public int when() {
        if (!isThere()) {
            return NO_SUCH;
        }
        int first = NONE;
        int least = idle() + 1;
        for (int d = 0; d < desk.days; d++) {
            int total = leastOnDay(d);
            if (total < least) {
                least = total;
                first = d;
            }
        }
        return first;
    }

    public int with(int bill, int day) {
        if (!isBill(bill) || !isDay(day)) {
            return NO_SUCH;
        }
        week.asTold();
        int least = search.least(week, bill, day, GREATEST);
        return least < GREATEST ? least : NONE;
    }

    public int may(int bill) {
        if (!isBill(bill)) {
            return NO_SUCH;
        }
        int least = leastOfAll();
        int bits = 0;
        for (int d = 0; d <= desk.days; d++) {
            week.asTold();
            if (search.least(week, bill, d, least + 1) == least) {
                bits |= 1 << d;
            }
        }
        return bits;
    }

    // Promises 42 to 46: the week by law, if something were otherwise.

    public int blame() {
        if (!isThere()) {
            return NO_SUCH;
        }
        int first = NONE;
        int least = GREATEST;
        for (int b = 0; b < desk.bills; b++) {
            int rest = byLaw().whole() - week.price(b, week.dayOrLast(b));
            int without = totalOfSet(week.allBills() & ~(1 << b));
            if (without < rest && without < least) {
                least = without;
                first = b;
            }
        }
        return first;
    }

    public int need() {
        if (!isThere()) {
            return NO_SUCH;
        }
        int cash = 0;
        for (int tries = 0; tries <= MOST_CASH && cash <= MOST_CASH; tries++) {
            week.asTold();
            week.cash = cash;
            week.planByLaw();
            if (week.unpaid() == 0) {
                return cash;
            }
            if (week.missing == 0) {
                return NONE;
            }
            // With less than that more, every day that was refused is refused again.
            cash += week.missing;
        }
        return NONE;
    }

    public int floor() {
        if (!isThere()) {
            return NO_SUCH;
        }
        int now = byLaw().whole();
        int floor = MOST_FLOOR;
        for (int tries = 0; tries <= MOST_FLOOR && floor > desk.floor; tries++) {
            week.asTold();
            week.floor = floor;
            week.planByLaw();
            if (week.whole() <= now) {
                return floor;
            }
            // By a floor between, every day that was refused is refused again.
            floor -= Math.max(1, week.missing);
        }
        return desk.floor;
    }

    public int broke() {
        if (!isThere()) {
            return NO_SUCH;
        }
        int open = byLaw().unpaid();
        for (int d = 0; d < desk.days; d++) {
            planWithClosed(d);
            if ((week.unpaid() & ~open) != 0) {
                return d;
            }
        }
        return NONE;
    }

    public int closing(int day) {
        if (!isDay(day)) {
            return NO_SUCH_CASH;
        }
        int now = byLaw().whole();
        planWithClosed(day);
        return week.whole() - now;
    }

    // Promises 47 to 54: what was seen, and laws.

    public int fits(int slot, int bill) {
        int refused = refusedSeen(slot, bill);
        if (refused != 0) {
            return refused;
        }
        return seen.fitting(week, rows, slot, bill);
    }

    public int low(int slot, int bill) {
        int refused = refusedSeen(slot, bill);
        if (refused != 0) {
            return refused;
        }
        seen.fitting(week, rows, slot, bill);
        return seen.leastOff();
    }

    public int high(int slot, int bill) {
        int refused = refusedSeen(slot, bill);
        if (refused != 0) {
            return refused;
        }
        seen.fitting(week, rows, slot, bill);
        return seen.greatestOff();
    }

    public int ask(int slot, int bill) {
        int refused = refusedSeen(slot, bill);
        if (refused != 0) {
            return refused;
        }
        seen.fitting(week, rows, slot, bill);
        return seen.question(desk.bills, desk.days);
    }

    public int leaves(int slot, int bill) {
        int refused = refusedSeen(slot, bill);
        if (refused != 0) {
            return refused;
        }
        int now = seen.fitting(week, rows, slot, bill);
        int question = seen.question(desk.bills, desk.days);
        return question == NONE ? now : seen.worst(question, desk.days);
    }

    public int laws(int slot) {
        if (!rows.isSlot(slot) || !isThere()) {
            return NO_SUCH;
        }
        int refused = rows.refusedSeen(slot, desk.bills, desk.days);
        if (refused != 0) {
            return refused;
        }
        int bits = 0;
        for (int law = 0; law < LAWS; law++) {
            planByOtherLaw(law);
            if (seen.agrees(week, rows, slot)) {
                bits |= 1 << law;
            }
        }
        return bits;
    }

    public int by(int law) {
        if (!isThere() || law < 0 || law >= LAWS) {
            return NO_SUCH;
        }
        planByOtherLaw(law);
        return week.whole();
    }

    public int law() {
        if (!isThere()) {
            return NO_SUCH;
        }
        int first = 0;
        int least = GREATEST;
        for (int law = 0; law < LAWS; law++) {
            planByOtherLaw(law);
            int total = week.whole();
            if (total < least) {
                least = total;
                first = law;
            }
        }
        return first;
    }

    // Promises 55 to 60: shares, the game, chance.

    public int worth(int set) {
        if (!isThere() || set < 0 || set > week.allBills()) {
            return NO_SUCH;
        }
        return shares.worthOf(week, set);
    }

    public int share(int bill, int what) {
        if (!isBill(bill) || !isPart(what)) {
            return NO_SUCH_SHARE;
        }
        shares.reckon(week, bill);
        return (int) partOf(shares.above, shares.below, what);
    }

    public int rests(int supplier, int other) {
        return arePlayers(supplier, other) ? game.atRest(week, supplier, other) : NO_SUCH;
    }

    public int has(int supplier, int other, int more, int otherMore) {
        if (!arePlayers(supplier, other) || !isChoice(more) || !isChoice(otherMore)) {
            return NO_SUCH_CASH;
        }
        game.play(week, supplier, other, more + 2 * otherMore);
        return game.gainOf(week, supplier);
    }

    public int chance(int bill, int what) {
        if (!isBill(bill) || !isPart(what)) {
            return NO_SUCH;
        }
        odds.reckon(week, bill);
        return (int) partOf(odds.above, odds.below, what);
    }

    public long mean(int what) {
        if (!isThere() || !isPart(what)) {
            return NO_SUCH;
        }
        odds.reckon(week, NONE);
        return partOf(odds.above, odds.below, what);
    }

    // Promises 61 to 64: acts.

    public int frees(int bill) {
        if (!isBill(bill)) {
            return NO_SUCH;
        }
        return desk.addRelease(bill) ? byLaw().whole() : NOT_NOW;
    }

    public int fails(int day) {
        if (!isDay(day)) {
            return NO_SUCH;
        }
        return desk.addFailure(day) ? byLaw().whole() : NOT_NOW;
    }

    public int undo() {
        if (!isThere()) {
            return NO_SUCH;
        }
        if (desk.acts == 0) {
            return NOT_NOW;
        }
        desk.acts--;
        return desk.acts;
    }

    public int anew() {
        if (!isThere()) {
            return NO_SUCH;
        }
        int before = desk.acts;
        desk.acts = 0;
        return before;
    }

    // Promises 65 to 68: weeks drawn, ranks, counts.

    public int drawn(int seed, int what) {
        if (!isThere() || !isSeed(seed) || !isPart(what)) {
            return NO_SUCH;
        }
        int lines = odds.draw(desk, seed);
        if (what == 0) {
            return lines;
        }
        planWithIncomes(lines);
        return week.whole();
    }

    public int luck(int seed, int n, int bill) {
        if (!isBill(bill) || !isSeed(seed) || n < 1 || n > MOST_WEEKS) {
            return NO_SUCH;
        }
        int paid = 0;
        for (int i = 0; i < n; i++) {
            planWithIncomes(odds.draw(desk, (long) seed + i));
            paid += week.isPaid(bill) ? 1 : 0;
        }
        return paid;
    }

    public int ranks(int supplier, int n) {
        if (!isSupplier(supplier) || n < 0 || n > MOST_RANK) {
            return NO_SUCH;
        }
        if (desk.acts > 0) {
            return NOT_NOW;
        }
        int before = desk.rank[supplier];
        desk.rank[supplier] = n;
        return before;
    }

    public int count(int what) {
        switch (what) {
            case 0: return desk.days;
            case 1: return desk.law;
            case 2: return desk.odds;
            case 3: return desk.cash;
            case 4: return desk.floor;
            case 5: return desk.fee;
            case 6: return desk.suppliers;
            case 7: return desk.bills;
            case 8: return desk.incomes;
            case 9: return desk.acts;
            case 10: return desk.lines;
            case 11: return tape.length;
            case 12: return rows.used();
            default: return NONE;
        }
    }

    // Promises 69 and 70: images.

    public int image(int k) {
        if (k < 0 || k >= IMAGES) {
            return NO_SUCH;
        }
        images[k].become(desk);
        kept[k] = true;
        return 0;
    }

    public int back(int k) {
        if (k < 0 || k >= IMAGES) {
            return NO_SUCH;
        }
        if (!kept[k]) {
            return NOTHING;
        }
        desk.become(images[k]);
        return 0;
    }

    // Promises 71 to 73: rows.

    public int row(int slot, int width, int n) {
        if (!rows.isSlot(slot) || width < 0 || width > 3 || n > ROW_NUMBERS) {
            return NO_SUCH;
        }
        if (n < 0) {
            return BELOW_ZERO;
        }
        rows.make(slot, width, n);
        return 0;
    }

    public int write(int slot, int i, long v) {
        if (!rows.isSlot(slot)) {
            return NO_SUCH;
        }
        if (rows.isEmpty(slot)) {
            return NOTHING;
        }
        if (i < 0 || i >= rows.size[slot]) {
            return BEYOND;
        }
        rows.put(slot, i, v);
        return 0;
    }

    public int paste(int slot, int i, int to, int k, int n) {
        if (!rows.isSlot(slot) || !rows.isSlot(to)) {
            return NO_SUCH;
        }
        if (rows.isEmpty(slot) || rows.isEmpty(to)) {
            return NOTHING;
        }
        if (rows.width[slot] != rows.width[to]) {
            return OTHER_WIDTH;
        }
        if (!rows.reaches(slot, i, n) || !rows.reaches(to, k, n)) {
            return BEYOND;
        }
        System.arraycopy(rows.number[slot], i, rows.number[to], k, n);
        return 0;
    }

    // What the promises share.

    private boolean isThere() {
        return desk.lines > 0;
    }

    private boolean isDay(int day) {
        return day >= 0 && day < desk.days;
    }

    private boolean isBill(int bill) {
        return bill >= 0 && bill < desk.bills;
    }

    private boolean isSupplier(int supplier) {
        return supplier >= 0 && supplier < desk.suppliers;
    }

    private boolean arePlayers(int supplier, int other) {
        return isSupplier(supplier) && isSupplier(other) && supplier != other;
    }

    private static boolean isPart(int what) {
        return what == 0 || what == 1;
    }

    private static boolean isChoice(int more) {
        return more == 0 || more == 1;
    }

    private static boolean isSeed(int seed) {
        return seed >= 0 && seed <= MOST_SEED;
    }

    private Week byLaw() {
        week.asTold();
        week.planByLaw();
        return week;
    }

    private void planByOtherLaw(int law) {
        week.asTold();
        week.law = law;
        week.planByLaw();
    }

    private void planWithClosed(int day) {
        week.asTold();
        week.closedDays |= 1 << day;
        week.planByLaw();
    }

    private void planWithIncomes(int lines) {
        week.asTold();
        week.coming = lines;
        week.planByLaw();
    }

    private int totalOfSet(int set) {
        week.asTold();
        week.set = set;
        week.planByLaw();
        return week.whole();
    }

    private int leastOfAll() {
        week.asTold();
        return search.least(week, NONE, NONE, GREATEST);
    }

    private int refusedPlan(int slot) {
        if (!rows.isSlot(slot) || !isThere()) {
            return NO_SUCH;
        }
        return rows.refusedPlan(slot, desk.bills, desk.days);
    }

    private int refusedSeen(int slot, int bill) {
        if (!rows.isSlot(slot) || !isBill(bill)) {
            return NO_SUCH;
        }
        return rows.refusedSeen(slot, desk.bills, desk.days);
    }

    private void layPlan(int slot) {
        week.asTold();
        week.clearPlan();
        for (int b = 0; b < desk.bills; b++) {
            int day = (int) rows.number[slot][b];
            if (isDay(day)) {
                week.pay(b, day);
            }
        }
    }

    /** TOTAL of the plan that pays none. */
    private int idle() {
        week.asTold();
        week.clearPlan();
        return week.whole();
    }

    /** The least TOTAL of lawful plans that pay some bills, on one day alone. */
    private int leastOnDay(int day) {
        int least = GREATEST;
        week.asTold();
        for (int bits = 1; bits <= week.allBills(); bits++) {
            week.clearPlan();
            for (int b = 0; b < desk.bills; b++) {
                if ((bits >> b & 1) == 1) {
                    week.pay(b, day);
                }
            }
            if (week.isLawful()) {
                least = Math.min(least, week.whole());
            }
        }
        return least;
    }

    private static long partOf(long above, long below, int what) {
        long common = commonDivisor(Math.abs(above), below);
        return (what == 0 ? above : below) / common;
    }

    /** At least 1, so that it may divide. */
    private static long commonDivisor(long a, long b) {
        long x = a;
        long y = b;
        for (int i = 0; i < 200 && y != 0; i++) {
            long rest = x % y;
            x = y;
            y = rest;
        }
        return Math.max(1, x);
    }

    /** The desk as told, with the acts done on it; no lines: there is none. */
    private static final class Desk {
        int lines;
        int days;
        int law;
        int odds;
        int cash;
        int floor;
        int fee;
        int suppliers;
        int bills;
        int incomes;
        int acts;
        final int[] rank;
        final int[][] told;
        final int[] amount;
        final int[] on;
        // A bill that is released, or, behind the last bill, a day whose file fails.
        final int[] act;

        Desk() {
            rank = new int[SUPPLIERS];
            told = new int[BILLS][TOLD];
            amount = new int[INCOMES];
            on = new int[INCOMES];
            act = new int[ACTS];
        }

        void clearAll() {
            lines = 0;
            days = 0;
            law = 0;
            odds = 0;
            cash = 0;
            floor = 0;
            fee = 0;
            suppliers = 0;
            bills = 0;
            incomes = 0;
            acts = 0;
        }

        void become(Desk other) {
            lines = other.lines;
            days = other.days;
            law = other.law;
            odds = other.odds;
            cash = other.cash;
            floor = other.floor;
            fee = other.fee;
            suppliers = other.suppliers;
            bills = other.bills;
            incomes = other.incomes;
            acts = other.acts;
            System.arraycopy(other.rank, 0, rank, 0, SUPPLIERS);
            for (int b = 0; b < BILLS; b++) {
                System.arraycopy(other.told[b], 0, told[b], 0, TOLD);
            }
            System.arraycopy(other.amount, 0, amount, 0, INCOMES);
            System.arraycopy(other.on, 0, on, 0, INCOMES);
            System.arraycopy(other.act, 0, act, 0, ACTS);
        }

        boolean addRelease(int bill) {
            return addAct(bill);
        }

        boolean addFailure(int day) {
            return addAct(BILLS + day);
        }

        private boolean addAct(int code) {
            if (acts >= ACTS) {
                return false;
            }
            act[acts] = code;
            acts++;
            return true;
        }

        int netOf(int bill) {
            for (int i = 0; i < acts; i++) {
                if (act[i] == bill) {
                    return told[bill][SUM];
                }
            }
            return told[bill][SUM] - told[bill][HELD];
        }

        int closedDays() {
            int bits = 0;
            for (int i = 0; i < acts; i++) {
                if (act[i] >= BILLS) {
                    bits |= 1 << (act[i] - BILLS);
                }
            }
            return bits;
        }

        int incomeOn(int day) {
            return incomeOn(day, (1 << incomes) - 1);
        }

        int incomeOn(int day, int lineBits) {
            int sum = 0;
            for (int i = 0; i < incomes; i++) {
                if (on[i] == day && (lineBits >> i & 1) == 1) {
                    sum += amount[i];
                }
            }
            return sum;
        }
    }

    /** The bytes that were fed, and how they are read as a desk. */
    private static final class Tape {
        private static final int END = 0;
        private static final int WORD = 1;
        private static final int NUMBER = 2;
        private static final int SIGN = 3;
        private static final int OTHER = 4;
        private static final int BLANK = 5;

        private static final int MISPLACED = 1;
        private static final int OUT_OF_BOUNDS = 2;
        private static final int TOO_MANY = 3;

        // Above every bound of the document, so that long numbers stay too great.
        private static final int GREAT = 100000;

        final byte[] text;
        final Desk draft;
        int length;
        int fault;
        int faultPlace;
        private int at;
        private int start;
        private int kind;
        private int value;

        Tape() {
            text = new byte[TAPE_BYTES];
            draft = new Desk();
            faultPlace = NONE;
        }

        void add(int four) {
            for (int shift = 24; shift >= 0 && length < TAPE_BYTES; shift -= 8) {
                text[length] = (byte) (four >> shift);
                length++;
            }
        }

        /** The tape is empty behind it, whether there was a fault or not. */
        void read() {
            draft.clearAll();
            fault = 0;
            faultPlace = NONE;
            at = 0;
            nextToken();
            for (int i = 0; i < TAPE_BYTES && fault == 0 && kind != END; i++) {
                if (draft.lines == 0) {
                    readDesk();
                } else if (isWord("supplier")) {
                    readSupplier();
                } else if (isWord("bill")) {
                    readBill();
                } else if (isWord("cash")) {
                    readIncome();
                } else {
                    refuse(MISPLACED);
                }
                takeSign();
                draft.lines++;
            }
            length = 0;
        }

        private void readDesk() {
            takeWord("desk");
            draft.days = takeField("days", 1, DAYS);
            draft.law = takeField("law", 0, LAWS - 1);
            draft.odds = takeField("odds", 0, 10);
            draft.cash = takeField("cash", 0, MOST_CASH);
            draft.floor = takeField("floor", 0, MOST_FLOOR);
            draft.fee = takeField("fee", 0, 200);
        }

        private void readSupplier() {
            if (draft.suppliers >= SUPPLIERS) {
                refuse(TOO_MANY);
                return;
            }
            nextToken();
            draft.rank[draft.suppliers] = takeField("rank", 0, MOST_RANK);
            draft.suppliers++;
        }

        private void readBill() {
            if (draft.bills >= BILLS) {
                refuse(TOO_MANY);
                return;
            }
            nextToken();
            int[] bill = draft.told[draft.bills];
            bill[OF] = takeField("of", 0, draft.suppliers - 1);
            bill[SUM] = takeField("sum", 1, 3000);
            bill[OFF] = takeField("off", 0, OFFS - 1);
            bill[BY] = takeField("by", 0, DAYS - 1);
            bill[DUE] = takeField("due", 0, DAYS - 1);
            bill[LATE] = takeField("late", 0, 99);
            bill[HELD] = isWord("held") ? takeField("held", 0, bill[SUM]) : 0;
            draft.bills++;
        }

        private void readIncome() {
            if (draft.incomes >= INCOMES) {
                refuse(TOO_MANY);
                return;
            }
            nextToken();
            draft.amount[draft.incomes] = takeNumber(1, 3000);
            draft.on[draft.incomes] = takeField("on", 0, DAYS - 1);
            draft.incomes++;
        }

        private int takeField(String word, int least, int most) {
            takeWord(word);
            return takeNumber(least, most);
        }

        private void takeWord(String word) {
            if (!isWord(word)) {
                refuse(MISPLACED);
            }
            nextToken();
        }

        private int takeNumber(int least, int most) {
            int number = value;
            if (kind != NUMBER) {
                refuse(MISPLACED);
            } else if (number < least || number > most) {
                refuse(OUT_OF_BOUNDS);
            }
            nextToken();
            return fault == 0 ? number : 0;
        }

        private void takeSign() {
            if (kind != SIGN) {
                refuse(MISPLACED);
            }
            nextToken();
        }

        /** Only the first fault counts: tokens are taken by their places. */
        private void refuse(int which) {
            if (fault == 0) {
                fault = which;
                faultPlace = start;
            }
        }

        private boolean isWord(String word) {
            if (kind != WORD || at - start != word.length()) {
                return false;
            }
            for (int i = 0; i < word.length(); i++) {
                if (text[start + i] != word.charAt(i)) {
                    return false;
                }
            }
            return true;
        }

        /** Stays at the token of a fault, so that all behind it is refused, too. */
        private void nextToken() {
            if (fault != 0) {
                return;
            }
            while (at < length && kindOf(text[at]) == BLANK) {
                at++;
            }
            start = at;
            value = 0;
            kind = at < length ? kindOf(text[at]) : END;
            boolean grows = kind == WORD || kind == NUMBER;
            int stop = grows ? length : Math.min(length, start + 1);
            for (; at < stop && kindOf(text[at]) == kind; at++) {
                value = Math.min(GREAT, value * 10 + digitOf(text[at]));
            }
        }

        private static int digitOf(byte sign) {
            return sign >= '0' && sign <= '9' ? sign - '0' : 0;
        }

        private static int kindOf(byte sign) {
            if (sign >= 'a' && sign <= 'z') {
                return WORD;
            }
            if (sign >= '0' && sign <= '9') {
                return NUMBER;
            }
            if (sign == ';') {
                return SIGN;
            }
            return sign == ' ' || sign == '\n' ? BLANK : OTHER;
        }
    }

    /** A week to be planned: as told, but for what the caller puts otherwise, and the plan laid in it. */
    private static final class Week {
        final Desk desk;
        int law;
        int cash;
        int floor;
        int closedDays;
        int set;
        int coming;
        final int[] net;
        final int[] off;

        final int[] day;
        final int[] order;
        int ordered;
        final int[] behind;
        final int[] files;
        // The least by which CASH was too little for a day that law asked for; 0: it never was.
        int missing;

        Week() {
            desk = new Desk();
            net = new int[BILLS];
            off = new int[BILLS];
            day = new int[BILLS];
            order = new int[BILLS];
            behind = new int[DAYS];
            files = new int[DAYS];
        }

        int allBills() {
            return (1 << desk.bills) - 1;
        }

        void asTold() {
            law = desk.law;
            cash = desk.cash;
            floor = desk.floor;
            closedDays = desk.closedDays();
            set = allBills();
            coming = (1 << desk.incomes) - 1;
            for (int b = 0; b < desk.bills; b++) {
                net[b] = desk.netOf(b);
                off[b] = desk.told[b][OFF];
            }
        }

        void clearPlan() {
            int sum = cash;
            for (int d = 0; d < desk.days; d++) {
                sum += desk.incomeOn(d, coming);
                behind[d] = sum;
                files[d] = 0;
            }
            for (int b = 0; b < desk.bills; b++) {
                day[b] = NONE;
            }
            missing = 0;
        }

        void planByLaw() {
            clearPlan();
            putInOrder();
            for (int i = 0; i < ordered; i++) {
                int best = dayByLaw(order[i]);
                if (best != NONE) {
                    pay(order[i], best);
                }
            }
        }

        private void putInOrder() {
            ordered = 0;
            for (int b = 0; b < desk.bills; b++) {
                if (isIn(b)) {
                    int place = ordered;
                    for (; place > 0 && isAhead(b, order[place - 1]); place--) {
                        order[place] = order[place - 1];
                    }
                    order[place] = b;
                    ordered++;
                }
            }
        }

        private boolean isAhead(int b, int other) {
            switch (law) {
                case 0: return rankOf(b) > rankOf(other);
                case LAW_OF_RATE: return gain(b) * span(other) > gain(other) * span(b);
                case 2: return desk.told[b][DUE] < desk.told[other][DUE];
                default: return net[b] < net[other];
            }
        }

        private int rankOf(int b) {
            return desk.rank[desk.told[b][OF]];
        }

        /** What off takes from the net. */
        int gain(int b) {
            return net[b] * off[b] / 100;
        }

        /** Days from by to due, at least 1. */
        int span(int b) {
            int days = desk.told[b][DUE] - desk.told[b][BY];
            return days > 0 ? days : 1;
        }

        private int dayByLaw(int b) {
            int best = NONE;
            int least = GREATEST;
            int lowest = GREATEST;
            // From the last day on back, as what is lowest behind a day counts the days behind it, too.
            for (int d = desk.days - 1; d >= 0; d--) {
                lowest = Math.min(lowest, behind[d]);
                if (!isClosed(d)) {
                    int goes = price(b, d) + feeFor(d);
                    int lacks = floor + goes - lowest;
                    if (lacks > 0) {
                        missing = missing == 0 ? lacks : Math.min(missing, lacks);
                    } else if (goes <= least) {
                        least = goes;
                        best = d;
                    }
                }
            }
            return best;
        }

        boolean isClosed(int d) {
            return (closedDays >> d & 1) == 1;
        }

        boolean isIn(int b) {
            return (set >> b & 1) == 1;
        }

        boolean isPaid(int b) {
            return day[b] != NONE;
        }

        boolean isCaught(int b) {
            return isPaid(b) && day[b] <= desk.told[b][BY];
        }

        /** The day of a bill; the one behind the last, if it is not paid. */
        int dayOrLast(int b) {
            return isPaid(b) ? day[b] : desk.days;
        }

        int price(int b, int d) {
            boolean isCut = d < desk.days && d <= desk.told[b][BY];
            return net[b] - (isCut ? gain(b) : 0) + penalty(b, d);
        }

        int penalty(int b, int d) {
            int days = d - desk.told[b][DUE];
            return days > 0 ? days * desk.told[b][LATE] : 0;
        }

        /** The fee for a bill that comes to those that are paid on a day. */
        int feeFor(int d) {
            return files[d] == 0 ? desk.fee : 0;
        }

        void pay(int b, int d) {
            int goes = price(b, d) + feeFor(d);
            day[b] = d;
            files[d] |= 1 << b;
            spend(d, goes);
        }

        void takeBack(int b) {
            int d = day[b];
            if (d != NONE) {
                day[b] = NONE;
                files[d] &= ~(1 << b);
                spend(d, -price(b, d) - feeFor(d));
            }
        }

        private void spend(int from, int sum) {
            for (int d = from; d < desk.days; d++) {
                behind[d] -= sum;
            }
        }

        int whole() {
            int sum = allFees();
            for (int b = 0; b < desk.bills; b++) {
                sum += isIn(b) ? price(b, dayOrLast(b)) : 0;
            }
            return sum;
        }

        int allFees() {
            int sum = 0;
            for (int d = 0; d < desk.days; d++) {
                sum += files[d] != 0 ? desk.fee : 0;
            }
            return sum;
        }

        int unpaid() {
            int bits = 0;
            for (int b = 0; b < desk.bills; b++) {
                if (isIn(b) && !isPaid(b)) {
                    bits |= 1 << b;
                }
            }
            return bits;
        }

        int paidOn(int d) {
            int sum = files[d] != 0 ? desk.fee : 0;
            for (int b = 0; b < desk.bills; b++) {
                sum += day[b] == d ? price(b, d) : 0;
            }
            return sum;
        }

        int paidTo(int supplier) {
            int sum = 0;
            for (int b = 0; b < desk.bills; b++) {
                sum += desk.told[b][OF] == supplier && isPaid(b) ? price(b, day[b]) : 0;
            }
            return sum;
        }

        int tightest() {
            int first = 0;
            for (int d = 1; d < desk.days; d++) {
                if (behind[d] < behind[first]) {
                    first = d;
                }
            }
            return first;
        }

        boolean isLawful() {
            boolean begun = false;
            for (int d = 0; d < desk.days; d++) {
                begun = begun || files[d] != 0;
                if (files[d] != 0 && isClosed(d) || begun && behind[d] < floor) {
                    return false;
                }
            }
            return true;
        }
    }

    /** The least TOTAL of lawful plans, by going through them bill by bill. */
    private static final class Search {
        // The first of the best plans that were met; the number of days stands for not at all.
        final int[] found;
        private final int[] tried;
        // What the bills from one on cost at least.
        private final int[] rest;
        private int least;
        private int fixedBill;
        private int fixedDay;

        Search() {
            found = new int[BILLS];
            tried = new int[BILLS];
            rest = new int[BILLS + 1];
        }

        /** Of plans in which a bill (or none: NONE) has a day; the limit, if none has less. */
        int least(Week week, int bill, int day, int limit) {
            least = limit;
            fixedBill = bill;
            fixedDay = day;
            week.clearPlan();
            reckonRest(week);
            choose(week, 0, 0);
            return least;
        }

        private void reckonRest(Week week) {
            rest[week.desk.bills] = 0;
            for (int b = week.desk.bills - 1; b >= 0; b--) {
                int lowest = GREATEST;
                for (int d = 0; d <= week.desk.days; d++) {
                    lowest = Math.min(lowest, week.price(b, d));
                }
                rest[b] = rest[b + 1] + lowest;
            }
        }

        private void choose(Week week, int b, int sum) {
            if (sum + rest[b] >= least) {
                return;
            }
            if (b >= week.desk.bills) {
                least = sum;
                System.arraycopy(tried, 0, found, 0, BILLS);
                return;
            }
            for (int d = 0; d <= week.desk.days; d++) {
                if (b != fixedBill || d == fixedDay) {
                    tryDay(week, b, d, sum);
                }
            }
        }

        private void tryDay(Week week, int b, int d, int sum) {
            tried[b] = d;
            if (d == week.desk.days) {
                choose(week, b + 1, sum + week.price(b, d));
                return;
            }
            int more = week.price(b, d) + week.feeFor(d);
            week.pay(b, d);
            // Bills that are paid besides never make an unlawful plan lawful.
            if (week.isLawful()) {
                choose(week, b + 1, sum + more);
            }
            week.takeBack(b);
        }
    }

    /** Rows of numbers; a size of NONE: the slot has nothing. */
    private static final class Rows {
        final long[][] number;
        final int[] size;
        final int[] width;

        Rows() {
            number = new long[SLOTS][ROW_NUMBERS];
            size = new int[SLOTS];
            width = new int[SLOTS];
            for (int s = 0; s < SLOTS; s++) {
                size[s] = NONE;
            }
        }

        boolean isSlot(int slot) {
            return slot >= 0 && slot < SLOTS;
        }

        boolean isEmpty(int slot) {
            return size[slot] == NONE;
        }

        int used() {
            int sum = 0;
            for (int s = 0; s < SLOTS; s++) {
                sum += isEmpty(s) ? 0 : 1;
            }
            return sum;
        }

        void make(int slot, int bytes, int n) {
            size[slot] = n;
            width[slot] = bytes;
            for (int i = 0; i < n; i++) {
                number[slot][i] = 0;
            }
        }

        void put(int slot, int i, long v) {
            switch (width[slot]) {
                case 0: number[slot][i] = (byte) v; break;
                case 1: number[slot][i] = (short) v; break;
                case 2: number[slot][i] = (int) v; break;
                default: number[slot][i] = v; break;
            }
        }

        boolean reaches(int slot, int from, int n) {
            return from >= 0 && n >= 0 && (long) from + n <= size[slot];
        }

        int refusedPlan(int slot, int bills, int days) {
            if (isEmpty(slot)) {
                return NOTHING;
            }
            if (size[slot] != bills) {
                return NO_SUCH;
            }
            for (int i = 0; i < bills; i++) {
                if (number[slot][i] < NONE || number[slot][i] >= days) {
                    return NO_SUCH;
                }
            }
            return 0;
        }

        int refusedSeen(int slot, int bills, int days) {
            if (isEmpty(slot)) {
                return NOTHING;
            }
            if (size[slot] % 2 != 0) {
                return NO_SUCH;
            }
            for (int i = 0; i + 1 < size[slot]; i += 2) {
                long bill = number[slot][i];
                long day = number[slot][i + 1];
                if (bill < 0 || bill >= bills || day < NONE || day >= days) {
                    return NO_SUCH;
                }
            }
            return 0;
        }
    }

    /** What off a bill can have been told, by days that were seen. */
    private static final class Seen {
        private final boolean[] isFit;
        private final int[][] days;
        private int now;

        Seen() {
            isFit = new boolean[OFFS];
            days = new int[OFFS][BILLS];
        }

        /** How many offs of a bill the row, which tells days, leaves. */
        int fitting(Week week, Rows rows, int slot, int bill) {
            now = 0;
            for (int off = 0; off < OFFS; off++) {
                week.asTold();
                week.off[bill] = off;
                week.planByLaw();
                isFit[off] = agrees(week, rows, slot);
                now += isFit[off] ? 1 : 0;
                System.arraycopy(week.day, 0, days[off], 0, BILLS);
            }
            return now;
        }

        boolean agrees(Week week, Rows rows, int slot) {
            for (int i = 0; i + 1 < rows.size[slot]; i += 2) {
                int bill = (int) rows.number[slot][i];
                if (bill < 0 || bill >= BILLS || week.day[bill] != rows.number[slot][i + 1]) {
                    return false;
                }
            }
            return true;
        }

        int leastOff() {
            for (int off = 0; off < OFFS; off++) {
                if (isFit[off]) {
                    return off;
                }
            }
            return NONE;
        }

        int greatestOff() {
            for (int off = OFFS - 1; off >= 0; off--) {
                if (isFit[off]) {
                    return off;
                }
            }
            return NONE;
        }

        int question(int bills, int lastDays) {
            int first = NONE;
            int fewest = now;
            for (int b = 0; b < bills; b++) {
                int left = worst(b, lastDays);
                if (left < fewest) {
                    fewest = left;
                    first = b;
                }
            }
            return first;
        }

        /** How many offs are left, if the day of a bill is the one that most of them share. */
        int worst(int bill, int lastDays) {
            int most = 0;
            for (int d = NONE; d < lastDays; d++) {
                int same = 0;
                for (int off = 0; off < OFFS; off++) {
                    same += isFit[off] && days[off][bill] == d ? 1 : 0;
                }
                most = Math.max(most, same);
            }
            return most;
        }
    }

    /** What bills are worth, and the mean of what each adds by all orders. */
    private static final class Shares {
        private static final int[] FACTORIAL = {1, 1, 2, 6, 24, 120};

        int above;
        int below;

        int worthOf(Week week, int set) {
            week.asTold();
            week.set = set;
            week.planByLaw();
            int nets = 0;
            for (int b = 0; b < week.desk.bills; b++) {
                nets += week.isIn(b) ? week.net[b] : 0;
            }
            return nets - week.whole();
        }

        void reckon(Week week, int bill) {
            int bills = week.desk.bills;
            above = 0;
            below = FACTORIAL[bills];
            for (int others = 0; others <= week.allBills(); others++) {
                if ((others >> bill & 1) == 0) {
                    int ahead = Integer.bitCount(others);
                    int orders = FACTORIAL[ahead] * FACTORIAL[bills - 1 - ahead];
                    above += orders * (worthOf(week, others | 1 << bill) - worthOf(week, others));
                }
            }
        }
    }

    /** Two suppliers who may give more off; a pair of choices: bit 0 the first one does, bit 1 the other one. */
    private static final class Game {
        private static final int MORE = 5;
        private static final int WAIT = 10;
        private static final int PAIRS = 4;

        private final int[] first;
        private final int[] second;

        Game() {
            first = new int[PAIRS];
            second = new int[PAIRS];
        }

        void play(Week week, int supplier, int other, int pair) {
            week.asTold();
            for (int b = 0; b < week.desk.bills; b++) {
                int owner = week.desk.told[b][OF];
                if (owner == supplier && (pair & 1) != 0 || owner == other && (pair & 2) != 0) {
                    week.off[b] += MORE;
                }
            }
            week.planByLaw();
        }

        int gainOf(Week week, int supplier) {
            int sum = week.paidTo(supplier);
            for (int b = 0; b < week.desk.bills; b++) {
                sum -= week.desk.told[b][OF] == supplier ? WAIT * week.dayOrLast(b) : 0;
            }
            return sum;
        }

        int atRest(Week week, int supplier, int other) {
            for (int pair = 0; pair < PAIRS; pair++) {
                play(week, supplier, other, pair);
                first[pair] = gainOf(week, supplier);
                second[pair] = gainOf(week, other);
            }
            int bits = 0;
            for (int pair = 0; pair < PAIRS; pair++) {
                if (first[pair] >= first[pair ^ 1] && second[pair] >= second[pair ^ 2]) {
                    bits |= 1 << pair;
                }
            }
            return bits;
        }
    }

    /** Cash that comes by chance. */
    private static final class Odds {
        long above;
        long below;

        /** The chance that a bill is paid; without one (NONE), the mean of TOTAL. */
        void reckon(Week week, int bill) {
            above = 0;
            below = 1;
            for (int i = 0; i < week.desk.incomes; i++) {
                below *= 10;
            }
            for (int lines = 0; lines < 1 << week.desk.incomes; lines++) {
                week.asTold();
                week.coming = lines;
                week.planByLaw();
                above += weight(week.desk, lines) * valueOf(week, bill);
            }
        }

        private static int valueOf(Week week, int bill) {
            if (bill == NONE) {
                return week.whole();
            }
            return week.isPaid(bill) ? 1 : 0;
        }

        private static long weight(Desk desk, int lines) {
            long product = 1;
            for (int i = 0; i < desk.incomes; i++) {
                product *= (lines >> i & 1) == 1 ? desk.odds : 10 - desk.odds;
            }
            return product;
        }

        /** The lines of cash that come in the week drawn from a seed. */
        int draw(Desk desk, long seed) {
            int bits = 0;
            long x = seed;
            for (int i = 0; i < desk.incomes; i++) {
                x = (1103515245L * x + 12345L) % 2147483648L;
                if (x / 65536 % 10 < desk.odds) {
                    bits |= 1 << i;
                }
            }
            return bits;
        }
    }
}
