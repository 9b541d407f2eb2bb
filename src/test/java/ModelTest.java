import java.math.BigInteger;
import java.util.ArrayList;
import java.util.Arrays;
import java.util.List;
import java.util.Random;

/** All promises that reckon, on desks drawn from seeds, beside the model. */
public final class ModelTest {
    private static final int DESKS = 1200;
    private static Random random;
    private static String of;

    public static void main(String[] args) {
        int desks = args.length > 0 ? Integer.parseInt(args[0]) : DESKS;
        int first = args.length > 1 ? Integer.parseInt(args[1]) : 0;
        for (int seed = first; seed < first + desks; seed++) {
            random = new Random(seed);
            Model m = drawDesk();
            PaymentRuns runs = Check.desk(m.text());
            of = " of seed " + seed + ", " + m.text();
            m.nothingDone();
            if (random.nextInt(3) == 0 && m.rank.length > 0) {
                int supplier = random.nextInt(m.rank.length);
                m.rank[supplier] = random.nextInt(10);
                runs.ranks(supplier, m.rank[supplier]);
            }
            for (int acts = random.nextInt(4); acts > 0; acts--) {
                act(m, runs);
            }
            law(m, runs);
            plans(m, runs);
            otherwise(m, runs, seed % 20 == 0);
            seen(m, runs);
            sets(m, runs);
            game(m, runs);
            chance(m, runs);
        }
        Check.end();
    }

    private static void same(String call, long got, long due) {
        Check.same(call + of, got, due);
    }

    private static int up(int most) {
        return random.nextInt(most + 1);
    }

    private static Model drawDesk() {
        Model m = new Model();
        int scale = random.nextBoolean() ? 3000 : 60;
        m.days = 1 + up(6);
        m.law = up(3);
        m.odds = up(10);
        m.cash = up(random.nextBoolean() ? scale : Math.min(9999, 3 * scale));
        m.floor = up(Math.min(5000, scale / 2));
        m.fee = random.nextInt(3) == 0 ? 0 : up(Math.min(200, scale / 3));
        m.rank = new int[up(4)];
        for (int s = 0; s < m.rank.length; s++) {
            m.rank[s] = up(random.nextBoolean() ? 9 : 1);
        }
        m.bills = new int[m.rank.length == 0 ? 0 : up(5)][];
        for (int b = 0; b < m.bills.length; b++) {
            int sum = 1 + up(scale - 1);
            int held = random.nextInt(3) == 0 ? up(sum) : 0;
            m.bills[b] = new int[] {up(m.rank.length - 1), sum, up(20), up(6), up(6), up(random.nextBoolean() ? 99 : 5), held};
        }
        m.lines = new int[random.nextBoolean() ? up(6) : up(2)][];
        for (int l = 0; l < m.lines.length; l++) {
            m.lines[l] = new int[] {1 + up(scale - 1), up(6)};
        }
        return m;
    }

    private static void act(Model m, PaymentRuns runs) {
        if (m.bills.length > 0 && random.nextBoolean()) {
            int b = random.nextInt(m.bills.length);
            m.freed[b] = true;
            same("frees", runs.frees(b), m.total());
        } else {
            int d = random.nextInt(m.days);
            m.closed[d] = true;
            same("fails", runs.fails(d), m.total());
        }
    }

    private static void law(Model m, PaymentRuns runs) {
        int[] plan = m.byLaw();
        int worthy = -1;
        int[] sums = new int[4];
        int[] bits = new int[3];
        int[] gets = new int[4];
        for (int b = 0; b < plan.length; b++) {
            same("day", runs.day(b), plan[b]);
            same("order", runs.order(b), m.order().get(b));
            same("net", runs.net(b), m.net(b));
            for (int d = 0; d <= m.days; d++) {
                same("costs", runs.costs(b, d), m.cost(b, d));
            }
            int common = BigInteger.valueOf(m.off(b)).gcd(BigInteger.valueOf(m.span(b))).intValue();
            same("rate above", runs.rate(b, 0), m.off(b) / common);
            same("rate below", runs.rate(b, 1), m.span(b) / common);
            if (worthy < 0 || m.off(b) * 1.0 / m.span(b) > m.off(worthy) * 1.0 / m.span(worthy) + 1e-9) {
                worthy = b;
            }
            boolean paid = plan[b] >= 0;
            boolean caught = paid && plan[b] <= m.bills[b][3];
            bits[0] |= paid ? 0 : 1 << b;
            bits[1] |= caught && m.bills[b][2] > 0 ? 1 << b : 0;
            bits[2] |= paid && plan[b] > m.bills[b][4] ? 1 << b : 0;
            sums[0] += caught ? m.off(b) : 0;
            sums[1] += m.cost(b, plan[b]) - m.net(b) + (caught ? m.off(b) : 0);
            gets[m.bills[b][0]] += paid ? m.cost(b, plan[b]) : 0;
            same("early", runs.early(b), paid ? m.bills[b][4] - plan[b] : -100);
        }
        same("worthy", runs.worthy(), worthy);
        same("open", runs.open(), bits[0]);
        same("caught", runs.caught(), bits[1]);
        same("late", runs.late(), bits[2]);
        same("saved", runs.saved(), sums[0]);
        same("lost", runs.lost(), sums[1]);
        same("fees", runs.fees(), m.fees(plan));
        same("total", runs.total(), m.total(plan));
        int dear = -1;
        for (int s = 0; s < m.rank.length; s++) {
            same("gets", runs.gets(s), gets[s]);
            dear = dear < 0 || gets[s] > gets[dear] ? s : dear;
        }
        same("dear", runs.dear(), dear);
        days(m, runs, plan);
    }

    private static void days(Model m, PaymentRuns runs, int[] plan) {
        int closed = 0;
        int tight = 0;
        int busy = -1;
        for (int d = 0; d < m.days; d++) {
            int file = 0;
            for (int b = 0; b < plan.length; b++) {
                file |= plan[b] == d ? 1 << b : 0;
            }
            int cash = m.cashBehind(plan, d);
            int comes = m.cashBehind(new int[0], d) - (d == 0 ? m.cash : m.cashBehind(new int[0], d - 1));
            same("file", runs.file(d), file);
            same("comes", runs.comes(d), comes);
            same("cash", runs.cash(d), cash);
            same("pays", runs.pays(d), (d == 0 ? m.cash : m.cashBehind(plan, d - 1)) + comes - cash);
            tight = cash < m.cashBehind(plan, tight) ? d : tight;
            if (file != 0 && (busy < 0 || Integer.bitCount(file) > Integer.bitCount(runs.file(busy)))) {
                busy = d;
            }
            closed |= m.closed[d] ? 1 << d : 0;
        }
        same("tight", runs.tight(), tight);
        same("room", runs.room(), m.cashBehind(plan, tight) - m.floor);
        same("busy", runs.busy(), busy);
        same("closed", runs.closed(), closed);
    }

    private static void plans(Model m, PaymentRuns runs) {
        for (int i = 0; i < 5; i++) {
            int[] plan = new int[m.bills.length];
            Check.row(runs, 0, new long[plan.length]);
            for (int b = 0; b < plan.length; b++) {
                plan[b] = random.nextInt(m.days + 1) - 1;
                runs.write(0, b, plan[b]);
            }
            same("lawful", runs.lawful(0), m.lawful(plan) ? 1 : 0);
            same("sums", runs.sums(0), m.total(plan));
            int falls = -1;
            for (int d = m.days - 1; d >= 0; d--) {
                falls = m.cashBehind(plan, d) < m.floor ? d : falls;
            }
            same("falls", runs.falls(0), falls);
        }
        if (m.bills.length < 5 || m.days < 5 || random.nextInt(8) == 0) {
            best(m, runs, m.plans());
        }
    }

    private static void best(Model m, PaymentRuns runs, List<int[]> plans) {
        int[] best = plans.get(0);
        int[][] with = new int[m.bills.length][m.days + 1];
        int batch = Integer.MAX_VALUE;
        int when = -1;
        for (int[] w : with) {
            Arrays.fill(w, Integer.MAX_VALUE);
        }
        for (int[] plan : plans) {
            int total = m.total(plan);
            best = total < m.total(best) ? plan : best;
            for (int b = 0; b < plan.length; b++) {
                int d = plan[b] < 0 ? m.days : plan[b];
                with[b][d] = Math.min(with[b][d], total);
            }
            long files = Arrays.stream(plan).filter(d -> d >= 0).distinct().count();
            int day = Arrays.stream(plan).max().orElse(-1);
            if (files <= 1 && (total < batch || total == batch && day >= 0 && (when < 0 || day < when))) {
                batch = total;
                when = day;
            }
        }
        same("best", runs.best(), m.total(best));
        same("waste", runs.waste(), m.total() - m.total(best));
        same("batch", runs.batch(), batch);
        same("when", runs.when(), when);
        for (int b = 0; b < m.bills.length; b++) {
            same("choice", runs.choice(b), best[b]);
            int may = 0;
            for (int d = 0; d <= m.days; d++) {
                may |= with[b][d] == m.total(best) ? 1 << d : 0;
                if (d < m.days) {
                    same("with", runs.with(b, d), with[b][d] == Integer.MAX_VALUE ? -1 : with[b][d]);
                }
            }
            same("may", runs.may(b), may);
        }
    }

    private static void otherwise(Model m, PaymentRuns runs, boolean all) {
        int[] now = m.byLaw();
        int total = m.total(now);
        int blame = -1;
        int least = Integer.MAX_VALUE;
        for (int b = 0; b < m.bills.length; b++) {
            Model without = m.copy();
            without.there[b] = false;
            int left = without.total();
            if (left < total - m.cost(b, now[b]) && left < least) {
                least = left;
                blame = b;
            }
        }
        same("blame", runs.blame(), blame);
        int broke = -1;
        for (int d = m.days - 1; d >= 0; d--) {
            Model other = m.copy();
            other.closed[d] = true;
            int[] plan = other.byLaw();
            same("closing", runs.closing(d), other.total(plan) - total);
            for (int b = 0; b < plan.length; b++) {
                broke = plan[b] < 0 && now[b] >= 0 ? d : broke;
            }
        }
        same("broke", runs.broke(), broke);
        if (all) {
            same("need", runs.need(), need(m));
            same("floor", runs.floor(), floor(m, total));
        }
    }

    private static int need(Model m) {
        Model other = m.copy();
        for (other.cash = 0; other.cash <= 9999; other.cash++) {
            if (Arrays.stream(other.byLaw()).allMatch(d -> d >= 0)) {
                return other.cash;
            }
        }
        return -1;
    }

    private static int floor(Model m, int total) {
        Model other = m.copy();
        for (other.floor = 5000; other.floor > m.floor; other.floor--) {
            if (other.total() <= total) {
                return other.floor;
            }
        }
        return m.floor;
    }

    private static void seen(Model m, PaymentRuns runs) {
        int least = 0;
        int bits = 0;
        int pairs = m.bills.length == 0 ? 0 : up(2);
        int[] row = new int[2 * pairs];
        int[] now = m.byLaw();
        for (int i = 0; i < pairs; i++) {
            row[2 * i] = random.nextInt(m.bills.length);
            row[2 * i + 1] = random.nextInt(3) > 0 ? now[row[2 * i]] : random.nextInt(m.days + 1) - 1;
        }
        Check.row(runs, 3, Arrays.stream(row).asLongStream().toArray());
        int[] totals = new int[4];
        for (int law = 0; law < 4; law++) {
            Model other = m.copy();
            other.law = law;
            int[] plan = other.byLaw();
            totals[law] = other.total(plan);
            same("by", runs.by(law), totals[law]);
            least = totals[law] < totals[least] ? law : least;
            bits |= agrees(plan, row) ? 1 << law : 0;
        }
        same("law", runs.law(), least);
        same("laws", runs.laws(3), bits);
        for (int b = 0; b < m.bills.length; b++) {
            seenOf(m, runs, b, row);
        }
    }

    private static boolean agrees(int[] plan, int[] row) {
        for (int i = 0; i < row.length; i += 2) {
            if (plan[row[i]] != row[i + 1]) {
                return false;
            }
        }
        return true;
    }

    private static void seenOf(Model m, PaymentRuns runs, int bill, int[] row) {
        List<Integer> offs = new ArrayList<>();
        List<int[]> plans = new ArrayList<>();
        for (int off = 0; off <= 20; off++) {
            Model other = m.copy();
            other.bills[bill][2] = off;
            int[] plan = other.byLaw();
            if (agrees(plan, row)) {
                offs.add(off);
                plans.add(plan);
            }
        }
        same("fits", runs.fits(3, bill), offs.size());
        same("low", runs.low(3, bill), offs.isEmpty() ? -1 : offs.get(0));
        same("high", runs.high(3, bill), offs.isEmpty() ? -1 : offs.get(offs.size() - 1));
        int ask = -1;
        int leaves = offs.size();
        for (int b = 0; b < m.bills.length; b++) {
            int[] groups = new int[m.days + 1];
            for (int[] plan : plans) {
                groups[plan[b] + 1]++;
            }
            int worst = Arrays.stream(groups).max().getAsInt();
            if (worst < leaves) {
                leaves = worst;
                ask = b;
            }
        }
        same("ask", runs.ask(3, bill), ask);
        same("leaves", runs.leaves(3, bill), leaves);
    }

    private static int worth(Model m, int set) {
        Model other = m.copy();
        int nets = 0;
        for (int b = 0; b < m.bills.length; b++) {
            other.there[b] = (set >> b & 1) == 1;
            nets += other.there[b] ? m.net(b) : 0;
        }
        return nets - other.total();
    }

    private static void sets(Model m, PaymentRuns runs) {
        int n = m.bills.length;
        int[] worth = new int[1 << n];
        for (int set = 0; set < 1 << n; set++) {
            worth[set] = worth(m, set);
            same("worth", runs.worth(set), worth[set]);
        }
        long[] sums = new long[n];
        int orders = addOrders(worth, n, 0, sums);
        for (int b = 0; b < n; b++) {
            fraction("share", runs.share(b, 0), runs.share(b, 1), BigInteger.valueOf(sums[b]), orders);
        }
    }

    /** Goes through all orders in which bills come, and adds what each has by them. */
    private static int addOrders(int[] worth, int n, int set, long[] sums) {
        if (set == (1 << n) - 1) {
            return 1;
        }
        int orders = 0;
        for (int b = 0; b < n; b++) {
            if ((set >> b & 1) == 0) {
                int behind = addOrders(worth, n, set | 1 << b, sums);
                orders += behind;
                sums[b] += (long) behind * (worth[set | 1 << b] - worth[set]);
            }
        }
        return orders;
    }

    private static void fraction(String call, long above, long below, BigInteger dueAbove, long dueBelow) {
        BigInteger common = dueAbove.gcd(BigInteger.valueOf(dueBelow));
        same(call + " above", above, dueAbove.divide(common).longValue());
        same(call + " below", below, dueBelow / common.longValue());
    }

    private static void game(Model m, PaymentRuns runs) {
        for (int s = 0; s < m.rank.length; s++) {
            for (int o = 0; o < m.rank.length; o++) {
                if (s != o) {
                    pair(m, runs, s, o);
                }
            }
        }
    }

    private static void pair(Model m, PaymentRuns runs, int s, int o) {
        int[][] first = new int[2][2];
        int[][] other = new int[2][2];
        for (int more = 0; more < 2; more++) {
            for (int otherMore = 0; otherMore < 2; otherMore++) {
                Model played = m.copy();
                for (int[] b : played.bills) {
                    b[2] += b[0] == s ? 5 * more : b[0] == o ? 5 * otherMore : 0;
                }
                first[more][otherMore] = played.gainOf(s, played.byLaw());
                other[more][otherMore] = played.gainOf(o, played.byLaw());
                same("has", runs.has(s, o, more, otherMore), first[more][otherMore]);
            }
        }
        int bits = 0;
        for (int i = 0; i < 2; i++) {
            for (int j = 0; j < 2; j++) {
                boolean rests = first[1 - i][j] <= first[i][j] && other[i][1 - j] <= other[i][j];
                bits += rests ? 1 << i + 2 * j : 0;
            }
        }
        same("rests", runs.rests(s, o), bits);
    }

    private static void chance(Model m, PaymentRuns runs) {
        int n = m.lines.length;
        BigInteger mean = BigInteger.ZERO;
        BigInteger[] paid = new BigInteger[m.bills.length];
        Arrays.fill(paid, BigInteger.ZERO);
        for (int set = 0; set < 1 << n; set++) {
            int come = Integer.bitCount(set);
            BigInteger weight = BigInteger.valueOf(m.odds).pow(come).multiply(BigInteger.valueOf(10 - m.odds).pow(n - come));
            int[] plan = withLines(m, set).byLaw();
            mean = mean.add(weight.multiply(BigInteger.valueOf(m.total(plan))));
            for (int b = 0; b < plan.length; b++) {
                paid[b] = plan[b] >= 0 ? paid[b].add(weight) : paid[b];
            }
        }
        long below = BigInteger.TEN.pow(n).longValue();
        fraction("mean", runs.mean(0), runs.mean(1), mean, below);
        for (int b = 0; b < m.bills.length; b++) {
            fraction("chance", runs.chance(b, 0), runs.chance(b, 1), paid[b], below);
        }
        int seed = random.nextInt(2000000001);
        int many = 1 + up(19);
        int[] luck = new int[m.bills.length];
        for (int i = 0; i < many; i++) {
            int set = lines(m, seed + i);
            int[] plan = withLines(m, set).byLaw();
            if (i == 0) {
                same("drawn lines", runs.drawn(seed, 0), set);
                same("drawn total", runs.drawn(seed, 1), m.total(plan));
            }
            for (int b = 0; b < plan.length; b++) {
                luck[b] += plan[b] >= 0 ? 1 : 0;
            }
        }
        for (int b = 0; b < m.bills.length; b++) {
            same("luck", runs.luck(seed, many, b), luck[b]);
        }
    }

    private static Model withLines(Model m, int set) {
        Model other = m.copy();
        for (int l = 0; l < m.lines.length; l++) {
            other.comes[l] = (set >> l & 1) == 1;
        }
        return other;
    }

    private static int lines(Model m, long seed) {
        BigInteger x = BigInteger.valueOf(seed);
        int bits = 0;
        for (int l = 0; l < m.lines.length; l++) {
            x = x.multiply(BigInteger.valueOf(1103515245)).add(BigInteger.valueOf(12345)).mod(BigInteger.ONE.shiftLeft(31));
            bits |= x.divide(BigInteger.valueOf(65536)).intValue() % 10 < m.odds ? 1 << l : 0;
        }
        return bits;
    }
}
