import java.io.IOException;
import java.lang.reflect.Method;
import java.nio.file.Files;
import java.nio.file.Path;
import java.util.regex.Matcher;
import java.util.regex.Pattern;

/** The answers that README.md tells are those that a new object gives to the desk told there. */
public final class ReadmeTest {
    private static final Pattern DESK = Pattern.compile("```text\n(desk .*?)```", Pattern.DOTALL);
    private static final Pattern CALL = Pattern.compile("(?m)^runs\\.(\\w+)\\((.*)\\); +// (-?\\d+)(:|$)");

    public static void main(String[] args) throws IOException, ReflectiveOperationException {
        String readme = Files.readString(Path.of("README.md"));
        Matcher desk = DESK.matcher(readme);
        Check.isTrue("a desk is told", desk.find());
        PaymentRuns runs = Check.desk(desk.group(1));
        int calls = 0;
        Matcher call = CALL.matcher(readme);
        for (; call.find(); calls++) {
            Check.same(call.group(1) + "(" + call.group(2) + ")", answer(runs, call.group(1), call.group(2)),
                    Long.parseLong(call.group(3)));
        }
        Check.same("calls told with their answers", calls, readme.split("\nruns\\.").length - 1);
        Check.isTrue("calls are told", calls > 0);
        Check.isTrue("the command that runs the tests", readme.contains("\n.ci/run\n"));
        Check.end();
    }

    private static long answer(PaymentRuns runs, String name, String numbers) throws ReflectiveOperationException {
        String[] told = numbers.isEmpty() ? new String[0] : numbers.split(", ");
        for (Method method : PaymentRuns.class.getMethods()) {
            Class<?>[] types = method.getParameterTypes();
            if (method.getName().equals(name) && types.length == told.length) {
                Object[] given = new Object[told.length];
                for (int i = 0; i < told.length; i++) {
                    given[i] = types[i] == long.class ? (Object) Long.valueOf(told[i]) : (Object) Integer.valueOf(told[i]);
                }
                return ((Number) method.invoke(runs, given)).longValue();
            }
        }
        throw new NoSuchMethodException(name);
    }
}
