import java.math.BigInteger;
import java.util.ArrayList;
import java.util.Arrays;
import java.util.Comparator;
import java.util.HashMap;
import java.util.List;
import java.util.Map;
import java.util.TreeSet;
import java.util.function.Predicate;
import java.util.function.Supplier;
import java.util.function.ToIntFunction;
import java.util.regex.Matcher;
import java.util.regex.Pattern;
import java.util.stream.IntStream;

/**
 * The document read a second time, for LongRunTest: an object with every method of the face, that shares no code and no
 * shape with the class. What is otherwise (a law, a closed day, a set of bills) is a whole other week here, made anew,
 * and every plan and every number is tried.
 */
final class Second {
    record Bill(int of, int sum, int off, int by, int due, int late, int held) {
        int net() {
            return sum - held;
        }

        int offered() {
            return net() * off / 100;
        }

        int span() {
            return due > by ? due - by : 1;
        }

        Bill freed() {
            return new Bill(of, sum, off, by, due, late, 0);
        }

        Bill offering(int other) {
            return new Bill(of, sum, other, by, due, late, held);
        }
    }

    record Income(int sum, int on) { }

    record Act(boolean frees, int number) { }

    private record Fault(int kind, int place) { }

    private static final class Refused extends RuntimeException {
        private static final long serialVersionUID = 1L;
        final transient Fault fault;

        Refused(int kind, int place) {
            super(null, null, false, false);
            fault = new Fault(kind, place);
        }
    }

    /** A desk with nothing to be done on it any more: acts have become closed days and bills without held parts. */
    private static final class Week {
        int days;
        int law;
        int odds;
        int cash;
        int floor;
        int fee;
        List<Integer> ranks = new ArrayList<>();
        List<Bill> bills = new ArrayList<>();
        List<Income> incomes = new ArrayList<>();
        TreeSet<Integer> closed = new TreeSet<>();

        Week copy() {
            Week w = new Week();
            w.days = days;
            w.law = law;
            w.odds = odds;
            w.cash = cash;
            w.floor = floor;
            w.fee = fee;
            w.ranks = new ArrayList<>(ranks);
            w.bills = new ArrayList<>(bills);
            w.incomes = new ArrayList<>(incomes);
            w.closed = new TreeSet<>(closed);
            return w;
        }

        int costs(int bill, int day) {
            Bill b = bills.get(bill);
            int late = Math.max(0, day - b.due) * b.late;
            return day < days && day <= b.by ? b.net() - b.offered() + late : b.net() + late;
        }

        int costsBy(int[] plan, int bill) {
            return costs(bill, plan[bill] < 0 ? days : plan[bill]);
        }

        int filesOf(int[] plan) {
            return (int) IntStream.range(0, days).filter(d -> fileOf(plan, d) != 0).count();
        }

        int fileOf(int[] plan, int day) {
            int bits = 0;
            for (int b = 0; b < plan.length; b++) {
                bits += plan[b] == day ? 1 << b : 0;
            }
            return bits;
        }

        int comesOn(int day) {
            return incomes.stream().filter(i -> i.on == day).mapToInt(Income::sum).sum();
        }

        int goesOn(int[] plan, int day) {
            int sum = fileOf(plan, day) == 0 ? 0 : fee;
            for (int b = 0; b < plan.length; b++) {
                sum += plan[b] == day ? costs(b, day) : 0;
            }
            return sum;
        }

        int[] cashBy(int[] plan) {
            int[] behind = new int[days];
            int sum = cash;
            for (int d = 0; d < days; d++) {
                sum += comesOn(d) - goesOn(plan, d);
                behind[d] = sum;
            }
            return behind;
        }

        int total(int[] plan) {
            int sum = filesOf(plan) * fee;
            for (int b = 0; b < plan.length; b++) {
                sum += costsBy(plan, b);
            }
            return sum;
        }

        int total() {
            return total(plan());
        }

        Integer[] order() {
            Integer[] order = IntStream.range(0, bills.size()).boxed().toArray(Integer[]::new);
            Arrays.sort(order, this::compare);
            return order;
        }

        private int compare(int one, int two) {
            Bill a = bills.get(one);
            Bill b = bills.get(two);
            return switch (law) {
                case 0 -> ranks.get(b.of).compareTo(ranks.get(a.of));
                case 1 -> Integer.compare(b.offered() * a.span(), a.offered() * b.span());
                case 2 -> Integer.compare(a.due, b.due);
                default -> Integer.compare(a.net(), b.net());
            };
        }

        int[] plan() {
            int[] plan = new int[bills.size()];
            Arrays.fill(plan, -1);
            for (int b : order()) {
                int least = Integer.MAX_VALUE;
                int best = -1;
                for (int d = 0; d < days; d++) {
                    int more = costs(b, d) + (fileOf(plan, d) == 0 ? fee : 0);
                    if (more < least && !closed.contains(d) && holds(plan, b, d)) {
                        least = more;
                        best = d;
                    }
                }
                plan[b] = best;
            }
            return plan;
        }

        private boolean holds(int[] plan, int bill, int day) {
            int[] more = plan.clone();
            more[bill] = day;
            int[] behind = cashBy(more);
            return IntStream.range(day, days).allMatch(d -> behind[d] >= floor);
        }

        boolean isLawful(int[] plan) {
            int[] behind = cashBy(plan);
            boolean ok = true;
            boolean begun = false;
            for (int d = 0; d < days; d++) {
                boolean pays = fileOf(plan, d) != 0;
                begun |= pays;
                ok &= !(pays && closed.contains(d)) && !(begun && behind[d] < floor);
            }
            return ok;
        }

        /** As if only these bills were there. */
        Week of(int set) {
            Week w = copy();
            w.bills.clear();
            for (int b = 0; b < bills.size(); b++) {
                if ((set >> b & 1) == 1) {
                    w.bills.add(bills.get(b));
                }
            }
            return w;
        }

        Week byCash(int bits) {
            Week w = copy();
            w.incomes.clear();
            for (int i = 0; i < incomes.size(); i++) {
                if ((bits >> i & 1) == 1) {
                    w.incomes.add(incomes.get(i));
                }
            }
            return w;
        }

        Week byLaw(int other) {
            Week w = copy();
            w.law = other;
            return w;
        }

        Week without(int day) {
            Week w = copy();
            w.closed.add(day);
            return w;
        }

        Week offering(int bill, int off) {
            Week w = copy();
            w.bills.set(bill, w.bills.get(bill).offering(off));
            return w;
        }
    }

    /** What going through all plans shows. */
    private static final class Plans {
        int best = Integer.MAX_VALUE;
        int[] first;
        final int[] may = new int[5];
        final int[][] with = new int[5][8];
        int batch = Integer.MAX_VALUE;
        int when;

        Plans(Week week) {
            int[] plan = new int[week.bills.size()];
            for (int[] row : with) {
                Arrays.fill(row, Integer.MAX_VALUE);
            }
            go(week, plan, 0);
            for (int b = 0; b < plan.length; b++) {
                for (int d = 0; d <= week.days; d++) {
                    may[b] += with[b][d] == best ? 1 << d : 0;
                }
            }
        }

        private void go(Week week, int[] plan, int b) {
            if (b < plan.length) {
                for (int d = 0; d <= week.days; d++) {
                    plan[b] = d < week.days ? d : -1;
                    go(week, plan, b + 1);
                }
            } else if (week.isLawful(plan)) {
                take(week, plan, week.total(plan));
            }
        }

        private void take(Week week, int[] plan, int total) {
            if (total < best) {
                best = total;
                first = plan.clone();
            }
            for (int b = 0; b < plan.length; b++) {
                int d = plan[b] < 0 ? week.days : plan[b];
                with[b][d] = Math.min(with[b][d], total);
            }
            if (week.filesOf(plan) <= 1) {
                int day = Arrays.stream(plan).max().orElse(-1);
                boolean sooner = day >= 0 && (when < 0 || day < when);
                when = total < batch || total == batch && sooner ? day : when;
                batch = Math.min(batch, total);
            }
        }
    }

    // The state, and what was reckoned of it since it last became otherwise.
    private final List<Byte> tape = new ArrayList<>();
    private Fault fault = new Fault(0, -1);
    private Week told = new Week();
    private int lines;
    private List<Act> acts = new ArrayList<>();
    private final Week[] imageTold = new Week[3];
    private final int[] imageLines = new int[3];
    private final List<List<Act>> imageActs = new ArrayList<>(Arrays.asList(null, null, null));
    private final long[][] rows = new long[4][];
    private final int[] widths = new int[4];
    private final Map<String, Object> known = new HashMap<>();

    // The tape.

    public int feed(int a, int b, int c, int d, int e) {
        if (tape.size() > 680) {
            return -1;
        }
        for (int four : new int[] {a, b, c, d, e}) {
            for (int i = 3; i >= 0; i--) {
                tape.add((byte) (four >>> 8 * i));
            }
        }
        return tape.size();
    }

    public int end(int n) {
        if (n < 0 || n > tape.size()) {
            return -1;
        }
        tape.subList(n, tape.size()).clear();
        return n;
    }

    public int desk() {
        StringBuilder text = new StringBuilder();
        tape.forEach(b -> text.append((char) (b & 255)));
        tape.clear();
        try {
            Reader reader = new Reader(text.toString());
            Week read = reader.read();
            fault = new Fault(0, -1);
            told = read;
            lines = reader.lines;
            acts = new ArrayList<>();
            known.clear();
            return lines;
        } catch (Refused refused) {
            fault = refused.fault;
            return -4;
        }
    }

    public int fault(int what) {
        return what == 0 ? fault.kind : what == 1 ? fault.place : -1;
    }

    /** Reads by patterns: what is to come is told as a text with # for numbers. */
    private static final class Reader {
        private static final Pattern TOKEN = Pattern.compile("[ \n]*(?:([a-z]+)|([0-9]+)|(;)|([^ \n])|\\z)");
        private final Matcher matcher;
        private final Week week = new Week();
        private int place;
        private String word;
        private BigInteger number;
        private boolean ended;
        int lines;

        Reader(String text) {
            matcher = TOKEN.matcher(text);
            next();
        }

        private void next() {
            if (!matcher.find()) {
                throw new IllegalStateException();
            }
            number = matcher.group(2) == null ? null : new BigInteger(matcher.group(2));
            word = matcher.group(1) != null ? matcher.group(1) : matcher.group(3);
            place = matcher.end();
            for (int g = 1; g <= 4; g++) {
                place = matcher.group(g) == null ? place : matcher.start(g);
            }
            ended = matcher.group(1) == null && number == null && word == null && matcher.group(4) == null;
        }

        Week read() {
            for (; !ended; lines++) {
                if (lines == 0) {
                    word("desk");
                    week.days = field("days", 1, 7);
                    week.law = field("law", 0, 3);
                    week.odds = field("odds", 0, 10);
                    week.cash = field("cash", 0, 9999);
                    week.floor = field("floor", 0, 5000);
                    week.fee = field("fee", 0, 200);
                } else if ("supplier".equals(word)) {
                    head(week.ranks.size(), 4);
                    week.ranks.add(field("rank", 0, 9));
                } else if ("bill".equals(word)) {
                    head(week.bills.size(), 5);
                    int of = field("of", 0, week.ranks.size() - 1);
                    int sum = field("sum", 1, 3000);
                    int off = field("off", 0, 20);
                    int by = field("by", 0, 6);
                    int due = field("due", 0, 6);
                    int late = field("late", 0, 99);
                    int held = "held".equals(word) ? field("held", 0, sum) : 0;
                    week.bills.add(new Bill(of, sum, off, by, due, late, held));
                } else if ("cash".equals(word)) {
                    head(week.incomes.size(), 6);
                    int sum = number(1, 3000);
                    week.incomes.add(new Income(sum, field("on", 0, 6)));
                } else {
                    throw new Refused(1, place);
                }
                word(";");
            }
            return week;
        }

        private void head(int now, int most) {
            if (now == most) {
                throw new Refused(3, place);
            }
            next();
        }

        private int field(String name, int least, int most) {
            word(name);
            return number(least, most);
        }

        private void word(String due) {
            if (!due.equals(word)) {
                throw new Refused(1, place);
            }
            next();
        }

        private int number(int least, int most) {
            if (number == null) {
                throw new Refused(1, place);
            }
            if (number.compareTo(BigInteger.valueOf(least)) < 0 || number.compareTo(BigInteger.valueOf(most)) > 0) {
                throw new Refused(2, place);
            }
            int read = number.intValue();
            next();
            return read;
        }
    }

    // What is there.

    private boolean noDesk() {
        return lines == 0;
    }

    private static boolean isIn(int i, int size) {
        return i >= 0 && i < size;
    }

    private boolean noBill(int bill) {
        return !isIn(bill, told.bills.size());
    }

    private boolean noSupplier(int supplier) {
        return !isIn(supplier, told.ranks.size());
    }

    private boolean noDay(int day) {
        return !isIn(day, told.days);
    }

    private Object reckoned(String what, Supplier<Object> anew) {
        if (!known.containsKey(what)) {
            known.put(what, anew.get());
        }
        return known.get(what);
    }

    private Week now() {
        return (Week) reckoned("now", () -> {
            Week w = told.copy();
            for (Act act : acts) {
                if (act.frees) {
                    w.bills.set(act.number, w.bills.get(act.number).freed());
                } else {
                    w.closed.add(act.number);
                }
            }
            return w;
        });
    }

    private int[] plan() {
        return (int[]) reckoned("plan", () -> now().plan());
    }

    private Plans plans() {
        return (Plans) reckoned("plans", () -> new Plans(now()));
    }

    private int bitsOf(Predicate<Integer> isSo) {
        int bits = 0;
        for (int b = 0; b < told.bills.size(); b++) {
            bits += isSo.test(b) ? 1 << b : 0;
        }
        return bits;
    }

    private int sumOf(ToIntFunction<Integer> what) {
        int sum = 0;
        for (int b = 0; b < told.bills.size(); b++) {
            sum += what.applyAsInt(b);
        }
        return sum;
    }

    private static long part(long above, long below, int what) {
        long common = BigInteger.valueOf(above).gcd(BigInteger.valueOf(below)).longValueExact();
        return (what == 0 ? above : below) / common;
    }

    public int rank(int supplier) {
        return noSupplier(supplier) ? -2 : told.ranks.get(supplier);
    }

    public int bill(int bill, int what) {
        if (noBill(bill) || !isIn(what, 7)) {
            return -2;
        }
        Bill b = told.bills.get(bill);
        return new int[] {b.of, b.sum, b.off, b.by, b.due, b.late, b.held}[what];
    }

    public int net(int bill) {
        return noBill(bill) ? -2 : now().bills.get(bill).net();
    }

    public int costs(int bill, int day) {
        return noBill(bill) || !isIn(day, told.days + 1) ? -2 : now().costs(bill, day);
    }

    public int comes(int day) {
        return noDay(day) ? -2 : told.comesOn(day);
    }

    public int closed() {
        return noDesk() ? -2 : now().closed.stream().mapToInt(d -> 1 << d).sum();
    }

    public int rate(int bill, int what) {
        if (noBill(bill) || !isIn(what, 2)) {
            return -2;
        }
        Bill b = now().bills.get(bill);
        return (int) part(b.offered(), b.span(), what);
    }

    public int worthy() {
        int best = noDesk() ? -2 : -1;
        for (int b = 0; b < told.bills.size(); b++) {
            if (best < 0 || rate(b, 0) * rate(best, 1) > rate(best, 0) * rate(b, 1)) {
                best = b;
            }
        }
        return best;
    }

    // By law.

    public int day(int bill) {
        return noBill(bill) ? -2 : plan()[bill];
    }

    public int order(int i) {
        if (i < 0 || noDesk()) {
            return -2;
        }
        return i < told.bills.size() ? now().order()[i] : -1;
    }

    public int file(int day) {
        return noDay(day) ? -2 : now().fileOf(plan(), day);
    }

    public int pays(int day) {
        return noDay(day) ? -2 : now().goesOn(plan(), day);
    }

    public int cash(int day) {
        return noDay(day) ? -100000 : now().cashBy(plan())[day];
    }

    public int room() {
        return noDesk() ? -100000 : Arrays.stream(now().cashBy(plan())).min().getAsInt() - told.floor;
    }

    public int tight() {
        return noDesk() ? -2 : IntStream.range(0, told.days).filter(d -> cash(d) - told.floor == room()).min().getAsInt();
    }

    public int fees() {
        return noDesk() ? -2 : now().filesOf(plan()) * told.fee;
    }

    public int open() {
        return noDesk() ? -2 : bitsOf(b -> plan()[b] == -1);
    }

    public int caught() {
        return noDesk() ? -2 : bitsOf(b -> told.bills.get(b).off > 0 && isCaught(b));
    }

    private boolean isCaught(int b) {
        return plan()[b] >= 0 && plan()[b] <= told.bills.get(b).by;
    }

    public int late() {
        return noDesk() ? -2 : bitsOf(b -> plan()[b] > told.bills.get(b).due);
    }

    public int saved() {
        return noDesk() ? -2 : sumOf(b -> isCaught(b) ? now().bills.get(b).offered() : 0);
    }

    public int lost() {
        return noDesk() ? -2 : total() - fees() + saved() - sumOf(this::net);
    }

    public int total() {
        return noDesk() ? -2 : now().total(plan());
    }

    public int early(int bill) {
        return noBill(bill) ? -200 : day(bill) < 0 ? -100 : told.bills.get(bill).due - day(bill);
    }

    public int gets(int supplier) {
        return noSupplier(supplier) ? -2 : getsBy(now(), plan(), supplier);
    }

    private static int getsBy(Week w, int[] plan, int supplier) {
        int sum = 0;
        for (int b = 0; b < plan.length; b++) {
            sum += plan[b] >= 0 && w.bills.get(b).of == supplier ? w.costsBy(plan, b) : 0;
        }
        return sum;
    }

    public int dear() {
        return noDesk() ? -2 : IntStream.range(0, told.ranks.size()).boxed()
                .max(Comparator.comparing(this::gets).thenComparing(s -> -s)).orElse(-1);
    }

    public int busy() {
        return noDesk() ? -2 : IntStream.range(0, told.days).boxed().filter(d -> file(d) != 0)
                .max(Comparator.comparing((Integer d) -> Integer.bitCount(file(d))).thenComparing(d -> -d)).orElse(-1);
    }

    // Plans.

    private int noPlan(int slot) {
        if (!isIn(slot, 4) || noDesk()) {
            return -2;
        }
        if (rows[slot] == null) {
            return -6;
        }
        boolean fits = rows[slot].length == told.bills.size()
                && Arrays.stream(rows[slot]).allMatch(d -> d >= -1 && d < told.days);
        return fits ? 0 : -2;
    }

    private int[] planOf(int slot) {
        return Arrays.stream(rows[slot]).mapToInt(d -> (int) d).toArray();
    }

    public int lawful(int slot) {
        return noPlan(slot) != 0 ? noPlan(slot) : now().isLawful(planOf(slot)) ? 1 : 0;
    }

    public int sums(int slot) {
        return noPlan(slot) != 0 ? noPlan(slot) : now().total(planOf(slot));
    }

    public int falls(int slot) {
        if (noPlan(slot) != 0) {
            return noPlan(slot);
        }
        int[] behind = now().cashBy(planOf(slot));
        return IntStream.range(0, told.days).filter(d -> behind[d] < told.floor).findFirst().orElse(-1);
    }

    public int best() {
        return noDesk() ? -2 : plans().best;
    }

    public int choice(int bill) {
        return noBill(bill) ? -2 : plans().first[bill];
    }

    public int waste() {
        return noDesk() ? -2 : total() - best();
    }

    public int batch() {
        return noDesk() ? -2 : plans().batch;
    }

    public int when() {
        return noDesk() ? -2 : plans().when;
    }

    public int with(int bill, int day) {
        if (noBill(bill) || noDay(day)) {
            return -2;
        }
        int least = plans().with[bill][day];
        return least == Integer.MAX_VALUE ? -1 : least;
    }

    public int may(int bill) {
        return noBill(bill) ? -2 : plans().may[bill];
    }

    // Otherwise.

    public int blame() {
        int first = noDesk() ? -2 : -1;
        int least = Integer.MAX_VALUE;
        int all = (1 << told.bills.size()) - 1;
        for (int b = 0; b < told.bills.size(); b++) {
            int left = now().of(all - (1 << b)).total();
            if (left < total() - now().costsBy(plan(), b) && left < least) {
                least = left;
                first = b;
            }
        }
        return first;
    }

    public int need() {
        return noDesk() ? -2 : (int) reckoned("need", () -> {
            Week w = now().copy();
            for (w.cash = 0; w.cash <= 9999; w.cash++) {
                if (Arrays.stream(w.plan()).allMatch(d -> d >= 0)) {
                    return w.cash;
                }
            }
            return -1;
        });
    }

    public int floor() {
        return noDesk() ? -2 : (int) reckoned("floor", () -> {
            Week w = now().copy();
            w.floor = 5000;
            while (w.total() > total()) {
                w.floor--;
            }
            return w.floor;
        });
    }

    public int broke() {
        if (noDesk()) {
            return -2;
        }
        return IntStream.range(0, told.days).filter(d -> {
            int[] then = now().without(d).plan();
            return bitsOf(b -> plan()[b] >= 0 && then[b] < 0) != 0;
        }).findFirst().orElse(-1);
    }

    public int closing(int day) {
        return noDay(day) ? -100000 : now().without(day).total() - total();
    }

    // Seen.

    private int noSeen(int slot) {
        if (rows[slot] == null) {
            return -6;
        }
        boolean fits = rows[slot].length % 2 == 0;
        for (int i = 0; fits && i < rows[slot].length; i += 2) {
            fits = rows[slot][i] >= 0 && rows[slot][i] < told.bills.size()
                    && rows[slot][i + 1] >= -1 && rows[slot][i + 1] < told.days;
        }
        return fits ? 0 : -2;
    }

    private int noSeen(int slot, int bill) {
        return !isIn(slot, 4) || noBill(bill) ? -2 : noSeen(slot);
    }

    private boolean isSeen(int slot, int[] plan) {
        return IntStream.range(0, rows[slot].length / 2)
                .allMatch(i -> plan[(int) rows[slot][2 * i]] == rows[slot][2 * i + 1]);
    }

    private int[][] plansByOff(int bill) {
        return (int[][]) reckoned("offs" + bill, () ->
                IntStream.rangeClosed(0, 20).mapToObj(off -> now().offering(bill, off).plan()).toArray(int[][]::new));
    }

    private int[] offs(int slot, int bill) {
        return IntStream.rangeClosed(0, 20).filter(off -> isSeen(slot, plansByOff(bill)[off])).toArray();
    }

    public int fits(int slot, int bill) {
        return noSeen(slot, bill) != 0 ? noSeen(slot, bill) : offs(slot, bill).length;
    }

    public int low(int slot, int bill) {
        return noSeen(slot, bill) != 0 ? noSeen(slot, bill) : Arrays.stream(offs(slot, bill)).min().orElse(-1);
    }

    public int high(int slot, int bill) {
        return noSeen(slot, bill) != 0 ? noSeen(slot, bill) : Arrays.stream(offs(slot, bill)).max().orElse(-1);
    }

    private int atWorst(int slot, int bill, int asked) {
        Map<Integer, Integer> many = new HashMap<>();
        for (int off : offs(slot, bill)) {
            many.merge(plansByOff(bill)[off][asked], 1, Integer::sum);
        }
        return many.values().stream().max(Comparator.naturalOrder()).orElse(0);
    }

    public int ask(int slot, int bill) {
        if (noSeen(slot, bill) != 0) {
            return noSeen(slot, bill);
        }
        int best = IntStream.range(0, told.bills.size()).boxed()
                .min(Comparator.comparing((Integer b) -> atWorst(slot, bill, b)).thenComparing(b -> b)).get();
        return atWorst(slot, bill, best) < fits(slot, bill) ? best : -1;
    }

    public int leaves(int slot, int bill) {
        int asked = ask(slot, bill);
        return asked < -1 ? asked : asked == -1 ? fits(slot, bill) : atWorst(slot, bill, asked);
    }

    public int laws(int slot) {
        if (!isIn(slot, 4) || noDesk()) {
            return -2;
        }
        return noSeen(slot) != 0 ? noSeen(slot)
                : IntStream.range(0, 4).filter(law -> isSeen(slot, now().byLaw(law).plan())).map(law -> 1 << law).sum();
    }

    public int by(int law) {
        return noDesk() || !isIn(law, 4) ? -2 : now().byLaw(law).total();
    }

    public int law() {
        return noDesk() ? -2 : IntStream.range(0, 4).boxed()
                .min(Comparator.comparing(this::by).thenComparing(law -> law)).get();
    }

    // Shares, the game, chance.

    public int worth(int set) {
        if (noDesk() || !isIn(set, 1 << told.bills.size())) {
            return -2;
        }
        Week w = now().of(set);
        return w.bills.stream().mapToInt(Bill::net).sum() - w.total();
    }

    public int share(int bill, int what) {
        if (noBill(bill) || !isIn(what, 2)) {
            return -1000000;
        }
        int[] worth = IntStream.range(0, 1 << told.bills.size()).map(this::worth).toArray();
        long[] sums = new long[2];
        orders(worth, 0, bill, sums);
        return (int) part(sums[0], sums[1], what);
    }

    /** Every order, bill by bill: sums what this bill brings in each, and counts them. */
    private void orders(int[] worth, int set, int bill, long[] sums) {
        if (set == worth.length - 1) {
            sums[1]++;
            return;
        }
        for (int b = 0; b < told.bills.size(); b++) {
            if ((set >> b & 1) == 0) {
                long before = sums[1];
                orders(worth, set | 1 << b, bill, sums);
                sums[0] += b == bill ? (sums[1] - before) * (worth[set | 1 << b] - worth[set]) : 0;
            }
        }
    }

    private boolean noPair(int supplier, int other) {
        return noSupplier(supplier) || noSupplier(other) || supplier == other;
    }

    public int rests(int supplier, int other) {
        if (noPair(supplier, other)) {
            return -2;
        }
        int bits = 0;
        for (int one = 0; one < 2; one++) {
            for (int two = 0; two < 2; two++) {
                boolean rests = has(supplier, other, one, two) >= has(supplier, other, 1 - one, two)
                        && has(other, supplier, two, one) >= has(other, supplier, 1 - two, one);
                bits += rests ? 1 << one + 2 * two : 0;
            }
        }
        return bits;
    }

    public int has(int supplier, int other, int more, int otherMore) {
        if (noPair(supplier, other) || !isIn(more, 2) || !isIn(otherMore, 2)) {
            return -100000;
        }
        Week w = now().copy();
        w.bills.replaceAll(b -> b.of == supplier ? b.offering(b.off + 5 * more)
                : b.of == other ? b.offering(b.off + 5 * otherMore) : b);
        int[] plan = w.plan();
        int waits = 0;
        for (int b = 0; b < plan.length; b++) {
            waits += w.bills.get(b).of != supplier ? 0 : plan[b] < 0 ? w.days : plan[b];
        }
        return getsBy(w, plan, supplier) - 10 * waits;
    }

    private long mean(ToIntFunction<Week> of, int what) {
        int n = told.incomes.size();
        long above = 0;
        for (int bits = 0; bits < 1 << n; bits++) {
            long likely = 1;
            for (int i = 0; i < n; i++) {
                likely *= (bits >> i & 1) == 1 ? told.odds : 10 - told.odds;
            }
            above += likely == 0 ? 0 : likely * of.applyAsInt(now().byCash(bits));
        }
        return part(above, BigInteger.TEN.pow(n).longValueExact(), what);
    }

    public int chance(int bill, int what) {
        return noBill(bill) || !isIn(what, 2) ? -2 : (int) mean(w -> w.plan()[bill] < 0 ? 0 : 1, what);
    }

    public long mean(int what) {
        return noDesk() || !isIn(what, 2) ? -2 : mean(Week::total, what);
    }

    // Acts.

    private int act(boolean frees, int number) {
        if (acts.size() == 20) {
            return -5;
        }
        acts.add(new Act(frees, number));
        known.clear();
        return total();
    }

    public int frees(int bill) {
        return noBill(bill) ? -2 : act(true, bill);
    }

    public int fails(int day) {
        return noDay(day) ? -2 : act(false, day);
    }

    public int undo() {
        if (noDesk()) {
            return -2;
        }
        if (acts.isEmpty()) {
            return -5;
        }
        acts.remove(acts.size() - 1);
        known.clear();
        return acts.size();
    }

    public int anew() {
        if (noDesk()) {
            return -2;
        }
        int were = acts.size();
        acts.clear();
        known.clear();
        return were;
    }

    // Weeks drawn, ranks, counts.

    private int drawnFrom(int seed) {
        BigInteger x = BigInteger.valueOf(seed);
        int bits = 0;
        for (int i = 0; i < told.incomes.size(); i++) {
            x = x.multiply(BigInteger.valueOf(1103515245)).add(BigInteger.valueOf(12345)).mod(BigInteger.ONE.shiftLeft(31));
            bits += x.shiftRight(16).intValueExact() % 10 < told.odds ? 1 << i : 0;
        }
        return bits;
    }

    private static boolean noSeed(int seed) {
        return seed < 0 || seed > 2000000000;
    }

    public int drawn(int seed, int what) {
        if (noDesk() || noSeed(seed) || !isIn(what, 2)) {
            return -2;
        }
        return what == 0 ? drawnFrom(seed) : now().byCash(drawnFrom(seed)).total();
    }

    public int luck(int seed, int n, int bill) {
        if (noBill(bill) || noSeed(seed) || n < 1 || n > 20) {
            return -2;
        }
        return (int) IntStream.range(seed, seed + n)
                .filter(s -> now().byCash(drawnFrom(s)).plan()[bill] >= 0).count();
    }

    public int ranks(int supplier, int n) {
        if (noSupplier(supplier) || !isIn(n, 10)) {
            return -2;
        }
        known.clear();
        return acts.isEmpty() ? told.ranks.set(supplier, n) : -5;
    }

    public int count(int what) {
        int used = (int) Arrays.stream(rows).filter(row -> row != null).count();
        int[] counts = {told.days, told.law, told.odds, told.cash, told.floor, told.fee, told.ranks.size(),
            told.bills.size(), told.incomes.size(), acts.size(), lines, tape.size(), used};
        return isIn(what, counts.length) ? counts[what] : -1;
    }

    // Images.

    public int image(int k) {
        if (!isIn(k, 3)) {
            return -2;
        }
        imageTold[k] = told.copy();
        imageLines[k] = lines;
        imageActs.set(k, new ArrayList<>(acts));
        return 0;
    }

    public int back(int k) {
        if (!isIn(k, 3)) {
            return -2;
        }
        if (imageTold[k] == null) {
            return -6;
        }
        told = imageTold[k].copy();
        lines = imageLines[k];
        acts = new ArrayList<>(imageActs.get(k));
        known.clear();
        return 0;
    }

    // Rows.

    public int row(int slot, int width, int n) {
        if (!isIn(slot, 4) || !isIn(width, 4) || n > 60) {
            return -2;
        }
        if (n < 0) {
            return -3;
        }
        rows[slot] = new long[n];
        widths[slot] = width;
        return 0;
    }

    public int write(int slot, int i, long v) {
        if (!isIn(slot, 4)) {
            return -2;
        }
        if (rows[slot] == null) {
            return -6;
        }
        if (!isIn(i, rows[slot].length)) {
            return -7;
        }
        int cut = 64 - (8 << widths[slot]);
        rows[slot][i] = v << cut >> cut;
        return 0;
    }

    public int paste(int slot, int i, int to, int k, int n) {
        if (!isIn(slot, 4) || !isIn(to, 4)) {
            return -2;
        }
        if (rows[slot] == null || rows[to] == null) {
            return -6;
        }
        if (widths[slot] != widths[to]) {
            return -8;
        }
        boolean within = i >= 0 && k >= 0 && n >= 0 && n <= rows[slot].length - i && n <= rows[to].length - k;
        if (!within) {
            return -7;
        }
        long[] were = rows[slot].clone();
        for (int j = 0; j < n; j++) {
            rows[to][k + j] = were[i + j];
        }
        return 0;
    }
}
