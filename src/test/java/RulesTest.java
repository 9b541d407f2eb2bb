import java.io.IOException;
import java.lang.reflect.Constructor;
import java.lang.reflect.Field;
import java.lang.reflect.InvocationTargetException;
import java.lang.reflect.Method;
import java.lang.reflect.Modifier;
import java.nio.file.Files;
import java.nio.file.Path;
import java.util.ArrayList;
import java.util.Arrays;
import java.util.Comparator;
import java.util.List;
import java.util.Random;
import java.util.regex.Matcher;
import java.util.regex.Pattern;

/** The rules of LANGUAGE.md that a test can see, and that no call throws or keeps room. */
public final class RulesTest {
    private static final String FACE = "feed5 end1 desk0 fault1 rank1 bill2 net1 costs2 comes1 closed0 rate2 worthy0 day1 "
            + "order1 file1 pays1 cash1 room0 tight0 fees0 open0 caught0 late0 saved0 lost0 total0 early1 gets1 dear0 busy0 "
            + "lawful1 sums1 falls1 best0 choice1 waste0 batch0 when0 with2 may1 blame0 need0 floor0 broke0 closing1 fits2 "
            + "low2 high2 ask2 leaves2 laws1 by1 law0 worth1 share2 rests2 has4 chance2 mean1 frees1 fails1 undo0 anew0 "
            + "drawn2 luck3 ranks2 count1 image1 back1 row3 write3 paste5";
    private static final int[] WILD = {Integer.MIN_VALUE, -100, -2, -1, 60, 61, 100, 2000000000, 2000000001, Integer.MAX_VALUE};

    public static void main(String[] args) throws Exception {
        face();
        source();
        neverThrows(args.length > 0 ? Integer.parseInt(args[0]) : 200);
        keepsNoRoom();
        Check.end();
    }

    private static List<Method> publicMethods() {
        List<Method> methods = new ArrayList<>();
        for (Method method : PaymentRuns.class.getDeclaredMethods()) {
            if (Modifier.isPublic(method.getModifiers())) {
                methods.add(method);
            }
        }
        methods.sort(Comparator.comparing(Method::getName));
        return methods;
    }

    private static void face() {
        List<String> due = new ArrayList<>(Arrays.asList(FACE.split(" ")));
        Check.same("methods of the document", due.size(), 72);
        for (Method method : publicMethods()) {
            Check.isTrue("in the face: " + method, due.remove(method.getName() + method.getParameterCount()));
            Class<?> answer = method.getName().equals("mean") ? long.class : int.class;
            Check.isTrue("answer of " + method, method.getReturnType() == answer);
        }
        Check.isTrue("missing: " + due, due.isEmpty());
        for (Method method : PaymentRuns.class.getDeclaredMethods()) {
            boolean isPublic = Modifier.isPublic(method.getModifiers());
            Check.isTrue("public or private: " + method, isPublic || Modifier.isPrivate(method.getModifiers()));
            boolean isNamed = FACE.matches("(.* )?" + method.getName() + "[0-9].*");
            Check.isTrue("no name of the face: " + method, isPublic || !isNamed);
        }
        for (Field field : PaymentRuns.class.getDeclaredFields()) {
            boolean isNone = field.getName().equals("NONE");
            Check.isTrue("public or private: " + field, isNone || Modifier.isPrivate(field.getModifiers()));
            Check.isTrue("final: " + field, Modifier.isFinal(field.getModifiers()));
        }
        Constructor<?>[] made = PaymentRuns.class.getDeclaredConstructors();
        Check.isTrue("one public constructor", made.length == 1 && Modifier.isPublic(made[0].getModifiers()));
        Class<?>[] inside = PaymentRuns.class.getDeclaredClasses();
        Check.isTrue("at most twelve classes", inside.length < 12);
        for (Class<?> c : inside) {
            Check.isTrue("static: " + c, Modifier.isStatic(c.getModifiers()));
            int fields = 0;
            for (Field field : c.getDeclaredFields()) {
                boolean isStatic = Modifier.isStatic(field.getModifiers());
                Check.isTrue("static is final: " + field, !isStatic || Modifier.isFinal(field.getModifiers()));
                fields += isStatic ? 0 : 1;
            }
            Check.isTrue("at most twenty fields: " + c, fields <= 20);
            for (Method method : c.getDeclaredMethods()) {
                Check.isTrue("no name of the face: " + method, !FACE.matches(".*\\b" + method.getName() + "[0-9].*"));
                Check.isTrue("at most seven parameters: " + method, method.getParameterCount() <= 7);
            }
        }
    }

    private static void source() throws IOException {
        String text = Files.readString(Path.of("src/main/java/PaymentRuns.java"));
        String code = text.replaceAll("/\\*(?s:.*?)\\*/", "").replaceAll("//.*", "");
        String[] ruledOut = {"throw", "try", "catch", "synchronized", "assert", "import", "package", "var", "Object",
            "hashCode", "toString", "finally", "native", "volatile", "yield", "double", "float"};
        for (String word : ruledOut) {
            Check.isTrue("no " + word, !Pattern.compile("\\b" + word + "\\b").matcher(code).find());
        }
        Check.isTrue("no lambda, no method reference", !code.contains("->") && !code.contains("::"));
        Check.isTrue("no name that ends in Exact", !code.contains("Exact"));
        Check.isTrue("signs 10 to 126 alone", text.chars().allMatch(c -> c == '\n' || c >= 32 && c < 127));
        Matcher calls = Pattern.compile("\\b(Math|Integer|System|Long|Arrays)\\.(\\w+)").matcher(code);
        List<String> listed = List.of("max", "min", "abs", "bitCount", "arraycopy");
        while (calls.find()) {
            Check.isTrue("listed: " + calls.group(), listed.contains(calls.group(2)));
        }
        int opened = 0;
        String[] rows = text.split("\n");
        for (int i = 0; i < rows.length; i++) {
            if (rows[i].matches(" {4,8}(?! ).*\\) \\{")) {
                opened = i;
            } else if (rows[i].matches(" {4}( {4})?\\}")) {
                Check.isTrue("a method of at most sixty lines, to line " + (i + 1), opened == 0 || i - opened <= 60);
                opened = 0;
            }
        }
    }

    /** Two objects have the same calls, of every kind and with wild numbers: no call throws, answers are the same. */
    private static void neverThrows(int objects) throws IllegalAccessException {
        List<Method> methods = publicMethods();
        for (int seed = 0; seed < objects; seed++) {
            Random random = new Random(seed);
            PaymentRuns one = new PaymentRuns();
            PaymentRuns two = new PaymentRuns();
            String[] texts = {Desks.PLAIN, Desks.ORDERS, Desks.EMPTY, ""};
            String text = texts[seed % 4];
            Check.tape(one, text);
            Check.tape(two, text);
            one.desk();
            two.desk();
            for (int i = 0; i < 450; i++) {
                Method method = methods.get(random.nextInt(methods.size()));
                if (method.getName().equals("desk") && random.nextInt(8) > 0) {
                    continue;
                }
                Object[] numbers = numbers(method, random);
                Object first = answer(method, one, numbers);
                Object second = answer(method, two, numbers);
                if (!first.equals(second)) {
                    Check.isTrue("same answers: " + method + Arrays.toString(numbers), false);
                }
            }
        }
        Check.isTrue("calls were made", objects > 0);
    }

    private static Object[] numbers(Method method, Random random) {
        Class<?>[] types = method.getParameterTypes();
        Object[] numbers = new Object[types.length];
        for (int i = 0; i < types.length; i++) {
            int number = random.nextInt(10) == 0 ? WILD[random.nextInt(WILD.length)] : random.nextInt(5);
            numbers[i] = types[i] == long.class ? (Object) (long) (number - random.nextInt(2)) : (Object) number;
        }
        return numbers;
    }

    private static Object answer(Method method, PaymentRuns runs, Object[] numbers) throws IllegalAccessException {
        try {
            return method.invoke(runs, numbers);
        } catch (InvocationTargetException thrown) {
            Check.isTrue(method + " of " + Arrays.toString(numbers) + " threw " + thrown.getCause(), false);
            return "thrown";
        }
    }

    /** Rows are made in the constructor and used again: no call makes an object. */
    private static void keepsNoRoom() {
        com.sun.management.ThreadMXBean threads =
                (com.sun.management.ThreadMXBean) java.lang.management.ManagementFactory.getThreadMXBean();
        PaymentRuns runs = Check.desk(Desks.ORDERS);
        runs.row(0, 3, 4);
        everyCall(runs);
        long before = threads.getCurrentThreadAllocatedBytes();
        long between = threads.getCurrentThreadAllocatedBytes();
        everyCall(runs);
        long behind = threads.getCurrentThreadAllocatedBytes();
        Check.same("bytes made by calls", behind - between, between - before);
    }

    private static long everyCall(PaymentRuns runs) {
        long sum = runs.feed(0, 0, 0, 0, 0) + runs.end(0) + runs.total() + runs.best() + runs.choice(0) + runs.batch()
                + runs.when() + runs.with(0, 0) + runs.may(0) + runs.blame() + runs.need() + runs.floor() + runs.broke()
                + runs.closing(0) + runs.fits(0, 0) + runs.ask(0, 0) + runs.leaves(0, 0) + runs.laws(0) + runs.law()
                + runs.worth(3) + runs.share(0, 0) + runs.rests(0, 1) + runs.chance(0, 0) + runs.mean(0) + runs.drawn(5, 1)
                + runs.luck(5, 20, 0) + runs.image(0) + runs.frees(4) + runs.fails(6) + runs.undo() + runs.anew()
                + runs.back(0) + runs.row(0, 3, 4) + runs.write(0, 0, 0) + runs.paste(0, 0, 0, 1, 2);
        return sum;
    }
}
