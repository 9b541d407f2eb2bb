import java.util.ArrayList;
import java.util.Arrays;
import java.util.Comparator;
import java.util.List;

/**
 * The document's terms in their plainest form, for ModelTest: every sum is made anew from the plan, every
 * plan and every number is tried.
 */
final class Model {
    int days;
    int law;
    int odds;
    int cash;
    int floor;
    int fee;
    int[] rank = new int[0];
    int[][] bills = new int[0][];
    int[][] lines = new int[0][];
    boolean[] freed = new boolean[0];
    boolean[] closed = new boolean[7];
    /** Bills that are there, lines of cash that come. */
    boolean[] there = new boolean[0];
    boolean[] comes = new boolean[0];

    String text() {
        StringBuilder t = new StringBuilder("desk days " + days + " law " + law + " odds " + odds + " cash " + cash
                + " floor " + floor + " fee " + fee + ";");
        for (int r : rank) {
            t.append("supplier rank ").append(r).append(';');
        }
        for (int[] b : bills) {
            t.append("bill of " + b[0] + " sum " + b[1] + " off " + b[2] + " by " + b[3] + " due " + b[4] + " late " + b[5]);
            t.append(b[6] > 0 ? " held " + b[6] + ";" : ";");
        }
        for (int[] l : lines) {
            t.append("cash " + l[0] + " on " + l[1] + ";");
        }
        return t.toString();
    }

    void nothingDone() {
        freed = new boolean[bills.length];
        closed = new boolean[7];
        there = new boolean[bills.length];
        comes = new boolean[lines.length];
        Arrays.fill(there, true);
        Arrays.fill(comes, true);
    }

    Model copy() {
        Model m = new Model();
        m.days = days;
        m.law = law;
        m.odds = odds;
        m.cash = cash;
        m.floor = floor;
        m.fee = fee;
        m.rank = rank.clone();
        m.bills = new int[bills.length][];
        for (int b = 0; b < bills.length; b++) {
            m.bills[b] = bills[b].clone();
        }
        m.lines = lines.clone();
        m.freed = freed.clone();
        m.closed = closed.clone();
        m.there = there.clone();
        m.comes = comes.clone();
        return m;
    }

    int net(int b) {
        return freed[b] ? bills[b][1] : bills[b][1] - bills[b][6];
    }

    int off(int b) {
        return (int) Math.floor(net(b) * bills[b][2] / 100.0 + 1e-9);
    }

    /** Day -1 and the one behind the last: not at all. */
    int cost(int b, int day) {
        int on = day < 0 ? days : day;
        int late = on > bills[b][4] ? (on - bills[b][4]) * bills[b][5] : 0;
        return on < days && on <= bills[b][3] ? net(b) - off(b) + late : net(b) + late;
    }

    int span(int b) {
        return bills[b][4] > bills[b][3] ? bills[b][4] - bills[b][3] : 1;
    }

    int cashBehind(int[] plan, int day) {
        int sum = cash;
        for (int d = 0; d <= day; d++) {
            boolean file = false;
            for (int l = 0; l < lines.length; l++) {
                sum += comes[l] && lines[l][1] == d ? lines[l][0] : 0;
            }
            for (int b = 0; b < plan.length; b++) {
                if (plan[b] == d) {
                    sum -= cost(b, d);
                    file = true;
                }
            }
            sum -= file ? fee : 0;
        }
        return sum;
    }

    int fees(int[] plan) {
        return (int) Arrays.stream(plan).filter(d -> d >= 0).distinct().count() * fee;
    }

    int total(int[] plan) {
        int sum = fees(plan);
        for (int b = 0; b < plan.length; b++) {
            sum += there[b] ? cost(b, plan[b]) : 0;
        }
        return sum;
    }

    boolean staysAbove(int[] plan, int from) {
        for (int d = from; d < days; d++) {
            if (cashBehind(plan, d) < floor) {
                return false;
            }
        }
        return true;
    }

    boolean lawful(int[] plan) {
        int first = days;
        for (int d : plan) {
            if (d >= 0) {
                first = Math.min(first, d);
                if (closed[d]) {
                    return false;
                }
            }
        }
        return staysAbove(plan, first);
    }

    List<Integer> order() {
        List<Integer> list = new ArrayList<>();
        for (int b = 0; b < bills.length; b++) {
            if (there[b]) {
                list.add(b);
            }
        }
        Comparator<Integer> first;
        switch (law) {
            case 0: first = Comparator.comparing(b -> -rank[bills[b][0]]); break;
            case 1: first = Comparator.comparing(b -> -off(b) * 60 / span(b)); break;
            case 2: first = Comparator.comparing(b -> bills[b][4]); break;
            default: first = Comparator.comparing(this::net); break;
        }
        list.sort(first.thenComparing(Comparator.naturalOrder()));
        return list;
    }

    int[] byLaw() {
        int[] plan = new int[bills.length];
        Arrays.fill(plan, -1);
        for (int b : order()) {
            int before = fees(plan);
            int best = -1;
            int least = Integer.MAX_VALUE;
            for (int d = 0; d < days; d++) {
                int[] tried = plan.clone();
                tried[b] = d;
                int goes = cost(b, d) + fees(tried) - before;
                if (!closed[d] && staysAbove(tried, d) && goes < least) {
                    least = goes;
                    best = d;
                }
            }
            plan[b] = best;
        }
        return plan;
    }

    int total() {
        return total(byLaw());
    }

    /** All plans, in the order in which promise 36 takes them. */
    List<int[]> plans() {
        List<int[]> all = new ArrayList<>();
        int many = (int) Math.round(Math.pow(days + 1, bills.length));
        for (int i = 0; i < many; i++) {
            int[] plan = new int[bills.length];
            int rest = i;
            for (int b = bills.length - 1; b >= 0; b--) {
                plan[b] = rest % (days + 1) == days ? -1 : rest % (days + 1);
                rest /= days + 1;
            }
            if (lawful(plan)) {
                all.add(plan);
            }
        }
        return all;
    }

    int gainOf(int supplier, int[] plan) {
        int sum = 0;
        for (int b = 0; b < bills.length; b++) {
            if (bills[b][0] == supplier) {
                sum += plan[b] < 0 ? -10 * days : cost(b, plan[b]) - 10 * plan[b];
            }
        }
        return sum;
    }
}
