import java.lang.reflect.Method;
import java.lang.reflect.Modifier;
import java.util.ArrayList;
import java.util.Arrays;
import java.util.Comparator;
import java.util.List;
import java.util.Random;

/** A call that only asks answers the same, whatever was asked ahead of it, and whatever desk stood there before. */
public final class AloneTest {
    private static final List<String> ACTS = List.of("feed", "end", "desk", "frees", "fails", "undo", "anew", "ranks",
            "image", "back", "row", "write", "paste");

    /** As full and as dear as a desk can be: what a call left behind of it would show on a smaller one. */
    private static final String FULL = "desk days 7 law 2 odds 9 cash 9999 floor 50 fee 99;"
            + "supplier rank 9;".repeat(4)
            + "bill of 3 sum 990 off 20 by 6 due 6 late 99 held 700;".repeat(5)
            + "cash 990 on 6;".repeat(3);

    public static void main(String[] args) throws ReflectiveOperationException {
        List<Method> questions = questions();
        behindAnotherDesk(questions);
        for (int seed = 0; seed < 40; seed++) {
            Random random = new Random(seed);
            String text = seed % 2 == 0 ? Desks.PLAIN : Desks.ORDERS.replace("cash 5000", "cash 500");
            for (Method method : questions) {
                Object[] numbers = numbers(method, random);
                PaymentRuns alone = made(text, seed);
                PaymentRuns asked = made(text, seed);
                for (int i = 0; i < 3; i++) {
                    Method other = questions.get(random.nextInt(questions.size()));
                    other.invoke(asked, numbers(other, random));
                }
                Check.same(method.getName() + Arrays.toString(numbers) + " of seed " + seed,
                        ((Number) method.invoke(asked, numbers)).longValue(),
                        ((Number) method.invoke(alone, numbers)).longValue());
            }
        }
        Check.end();
    }

    /** Promise 4: a desk stands in place of another, of which nothing is left. */
    private static void behindAnotherDesk(List<Method> questions) throws ReflectiveOperationException {
        for (String text : List.of(Desks.PLAIN, Desks.ORDERS.replace("cash 5000", "cash 500"), Desks.EMPTY)) {
            for (int seed = 0; seed < 12; seed++) {
                Random random = new Random(seed);
                PaymentRuns second = behind(FULL, text, seed, questions);
                for (Method method : questions) {
                    Object[] numbers = numbers(method, random);
                    Check.same(method.getName() + Arrays.toString(numbers) + " of seed " + seed + " behind another desk",
                            ((Number) method.invoke(second, numbers)).longValue(),
                            ((Number) method.invoke(made(text, seed), numbers)).longValue());
                }
            }
        }
    }

    /** An object with this desk, which was asked everything of another one, and had acts, ahead of it. */
    private static PaymentRuns behind(String other, String text, int seed, List<Method> questions)
            throws ReflectiveOperationException {
        PaymentRuns runs = Check.desk(other);
        runs.frees(4);
        runs.fails(6);
        Check.row(runs, 0, 6, 6, 6, 6, 6);
        for (Method method : questions) {
            method.invoke(runs, numbers(method, new Random(seed)));
        }
        Check.tape(runs, text);
        Check.isTrue("desk() of " + text + " in place of another", runs.desk() >= 0);
        return done(runs, seed);
    }

    private static PaymentRuns made(String text, int seed) {
        return done(Check.desk(text), seed);
    }

    private static PaymentRuns done(PaymentRuns runs, int seed) {
        Check.row(runs, 0, 0, 0);
        Check.row(runs, 1, 1, 0);
        if (seed % 4 > 1) {
            runs.frees(1);
            runs.fails(seed % 3);
        }
        return runs;
    }

    private static List<Method> questions() {
        List<Method> methods = new ArrayList<>();
        for (Method method : PaymentRuns.class.getDeclaredMethods()) {
            if (Modifier.isPublic(method.getModifiers()) && !ACTS.contains(method.getName())) {
                methods.add(method);
            }
        }
        methods.sort(Comparator.comparing(Method::getName));
        return methods;
    }

    private static Object[] numbers(Method method, Random random) {
        Object[] numbers = new Object[method.getParameterCount()];
        for (int i = 0; i < numbers.length; i++) {
            numbers[i] = random.nextInt(3);
        }
        return numbers;
    }
}
