import java.lang.reflect.Method;
import java.lang.reflect.Modifier;
import java.util.ArrayList;
import java.util.Arrays;
import java.util.Comparator;
import java.util.List;
import java.util.Random;

/** A call that only asks answers the same, whatever was asked ahead of it. */
public final class AloneTest {
    private static final List<String> ACTS = List.of("feed", "end", "desk", "frees", "fails", "undo", "anew", "ranks",
            "image", "back", "row", "write", "paste");

    public static void main(String[] args) throws ReflectiveOperationException {
        List<Method> questions = questions();
        for (int seed = 0; seed < 40; seed++) {
            Random random = new Random(seed);
            String text = seed % 2 == 0 ? Desks.PLAIN : Desks.ORDERS.replace("cash 5000", "cash 500");
            for (Method method : questions) {
                Object[] numbers = numbers(method, random);
                PaymentRuns alone = made(text, seed);
                PaymentRuns asked = made(text, seed);
                for (int i = 0; i < 3; i++) {
                    Method other = questions.get(random.nextInt(questions.size()));
                    other.invoke(asked, numbers(other, random));
                }
                Check.same(method.getName() + Arrays.toString(numbers) + " of seed " + seed,
                        ((Number) method.invoke(asked, numbers)).longValue(),
                        ((Number) method.invoke(alone, numbers)).longValue());
            }
        }
        Check.end();
    }

    private static PaymentRuns made(String text, int seed) {
        PaymentRuns runs = Check.desk(text);
        Check.row(runs, 0, 0, 0);
        Check.row(runs, 1, 1, 0);
        if (seed % 4 > 1) {
            runs.frees(1);
            runs.fails(seed % 3);
        }
        return runs;
    }

    private static List<Method> questions() {
        List<Method> methods = new ArrayList<>();
        for (Method method : PaymentRuns.class.getDeclaredMethods()) {
            if (Modifier.isPublic(method.getModifiers()) && !ACTS.contains(method.getName())) {
                methods.add(method);
            }
        }
        methods.sort(Comparator.comparing(Method::getName));
        return methods;
    }

    private static Object[] numbers(Method method, Random random) {
        Object[] numbers = new Object[method.getParameterCount()];
        for (int i = 0; i < numbers.length; i++) {
            numbers[i] = random.nextInt(3);
        }
        return numbers;
    }
}
