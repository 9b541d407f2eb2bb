import java.lang.reflect.InvocationTargetException;
import java.lang.reflect.Method;
import java.lang.reflect.Modifier;
import java.nio.charset.StandardCharsets;
import java.util.ArrayList;
import java.util.Arrays;
import java.util.Comparator;
import java.util.HashMap;
import java.util.List;
import java.util.Map;
import java.util.Random;

/** Runs of 512 calls on one object, of every kind and in any order, beside the second reading of the document. */
public final class LongRunTest {
    private static final int RUNS = 40;
    private static final int CALLS = 512;
    private static final int[] WILD = {Integer.MIN_VALUE, -200, -3, -2, -1, 5, 7, 8, 31, 32, 59, 60, 61, 2000000000,
        2000000001, Integer.MAX_VALUE};

    /** The kinds of a call's numbers, a sign each; see number(). */
    private static final Map<String, String> KINDS = new HashMap<>();

    static {
        for (String kind : ("feed:xxxxx end:e fault:w rank:s bill:b7 net:b costs:bd comes:d rate:bw day:b order:b file:d pays:d "
                + "cash:d early:b gets:s lawful:t sums:t falls:t choice:b with:bd may:b closing:d fits:tb low:tb high:tb "
                + "ask:tb leaves:tb laws:t by:4 worth:m share:bw rests:ss has:ssww chance:bw mean:w frees:b fails:d drawn:xw "
                + "luck:xnb ranks:sr count:c image:3 back:3 row:t4l write:tiv paste:titii").split(" ")) {
            KINDS.put(kind.split(":")[0], kind.split(":")[1]);
        }
    }

    private final Random random;
    private final long seed;
    private final PaymentRuns runs = new PaymentRuns();
    private final Second second = new Second();
    private final List<Method> methods = new ArrayList<>();
    private int calls;

    private LongRunTest(long seed) {
        this.seed = seed;
        random = new Random(seed);
        for (Method method : Second.class.getDeclaredMethods()) {
            if (Modifier.isPublic(method.getModifiers())) {
                methods.add(method);
            }
        }
        methods.sort(Comparator.comparing(Method::getName));
    }

    public static void main(String[] args) throws ReflectiveOperationException {
        int many = args.length > 0 ? Integer.parseInt(args[0]) : RUNS;
        long first = args.length > 1 ? Long.parseLong(args[1]) : 0;
        for (long seed = first; seed < first + many; seed++) {
            new LongRunTest(seed).run();
        }
        Check.end();
    }

    private void run() throws ReflectiveOperationException {
        Check.same("methods of the face", methods.size(), 72);
        if (random.nextInt(5) > 0) {
            tellDesk();
        }
        while (calls < CALLS) {
            switch (random.nextInt(40)) {
                case 0 -> tellDesk();
                case 1 -> tellRow(false);
                case 2 -> tellRow(true);
                case 3 -> act(random.nextInt(12) == 0 ? 22 : 2);
                default -> any();
            }
        }
    }

    private void call(String name, long... numbers) throws ReflectiveOperationException {
        if (calls >= CALLS) {
            return;
        }
        calls++;
        for (Method method : methods) {
            if (method.getName().equals(name)) {
                Class<?>[] types = method.getParameterTypes();
                Object[] given = new Object[types.length];
                for (int i = 0; i < types.length; i++) {
                    given[i] = types[i] == long.class ? (Object) numbers[i] : (Object) (int) numbers[i];
                }
                long due = ((Number) method.invoke(second, given)).longValue();
                Check.same("run " + seed + ", call " + calls + ": " + name + Arrays.toString(numbers), asked(name, types, given), due);
            }
        }
    }

    private long asked(String name, Class<?>[] types, Object[] given) throws ReflectiveOperationException {
        try {
            return ((Number) PaymentRuns.class.getMethod(name, types).invoke(runs, given)).longValue();
        } catch (InvocationTargetException thrown) {
            System.out.println(name + " threw " + thrown.getCause());
            return Long.MIN_VALUE;
        }
    }

    private void any() throws ReflectiveOperationException {
        Method method = methods.get(random.nextInt(methods.size()));
        String name = method.getName();
        // These make the run go elsewhere: rarely, so that there is much to ask between them.
        int rare = name.equals("desk") ? 20 : List.of("anew", "undo", "back", "end", "feed").contains(name) ? 4 : 1;
        if (random.nextInt(rare) == 0) {
            String kinds = KINDS.getOrDefault(name, "");
            long[] numbers = new long[method.getParameterCount()];
            for (int i = 0; i < numbers.length; i++) {
                boolean isWild = random.nextInt(30) == 0;
                numbers[i] = isWild ? WILD[random.nextInt(WILD.length)] : number(kinds.charAt(i));
            }
            if (kinds.startsWith("ss") && numbers[0] == numbers[1] && up(5) > 0) {
                numbers[1] = (numbers[0] + 1) % Math.max(2, second.count(6));
            }
            call(name, numbers);
        }
    }

    private int up(int most) {
        return random.nextInt(most + 1);
    }

    private long number(char kind) {
        switch (kind) {
            case 'b': return up(Math.max(0, second.count(7) - 1)) + (up(20) == 0 ? 1 : 0);
            case 's': return up(Math.max(0, second.count(6) - 1)) + (up(20) == 0 ? 1 : 0);
            case 'd': return up(Math.max(0, second.count(0) - 1)) + (up(8) == 0 ? 1 : 0);
            case 't': return up(2) + (up(10) == 0 ? 1 : 0);
            case 'w': return up(1);
            case 'x': return random.nextInt(2000000001);
            case 'e': return up(second.count(11));
            case 'm': return up((1 << second.count(7)) - 1);
            case 'n': return 1 + up(20);
            case 'r': return up(9);
            case 'c': return up(12);
            case 'l': return up(61);
            case 'i': return up(12);
            case 'v': return random.nextInt(4) == 0 ? random.nextLong() : up(9) - 1L;
            default: return up(kind - '1');
        }
    }

    private void act(int most) throws ReflectiveOperationException {
        for (int i = up(most); i >= 0; i--) {
            if (random.nextBoolean()) {
                call("frees", number('b'));
            } else {
                call("fails", number('d'));
            }
        }
    }

    /** A plan, or days seen: mostly those by law. */
    private void tellRow(boolean isSeen) throws ReflectiveOperationException {
        int slot = up(3);
        int bills = second.count(7);
        int days = second.count(0);
        int many = isSeen ? 2 * up(2) : bills;
        call("row", slot, up(3), many + (up(15) == 0 ? 1 : 0));
        for (int i = 0; i < many; i++) {
            int bill = isSeen ? up(Math.max(0, bills - 1)) : i;
            long day = up(1) == 0 ? second.day(bill) : up(days) - 1;
            if (isSeen) {
                call("write", slot, i, bill);
                i++;
            }
            call("write", slot, i, day + (up(30) == 0 ? up(3) - 1 : 0));
        }
        for (String name : isSeen ? List.of("fits", "low", "high", "ask", "leaves") : List.of("lawful", "sums", "falls")) {
            call(name, isSeen ? new long[] {slot, number('b')} : new long[] {slot});
        }
        call("laws", slot);
    }

    private void tellDesk() throws ReflectiveOperationException {
        byte[] text = text().getBytes(StandardCharsets.ISO_8859_1);
        call("end", 0);
        byte[] padded = Arrays.copyOf(text, (text.length + 19) / 20 * 20);
        java.nio.ByteBuffer numbers = java.nio.ByteBuffer.wrap(padded);
        while (numbers.hasRemaining()) {
            call("feed", numbers.getInt(), numbers.getInt(), numbers.getInt(), numbers.getInt(), numbers.getInt());
        }
        call("end", text.length);
        call("desk");
        call("fault", 0);
        call("fault", 1);
    }

    private String text() {
        int scale = List.of(30, 300, 3000).get(up(2));
        StringBuilder text = new StringBuilder("desk days " + (up(3) == 0 ? 1 + up(6) : 3 + up(4)) + " law " + up(3) + " odds "
                + up(10) + " cash " + up(scale * 3) + " floor " + up(scale / 2) + " fee " + up(Math.min(200, scale / 5)) + ";");
        int suppliers = up(9) == 0 ? 0 : 1 + up(3);
        int bills = suppliers == 0 ? 0 : up(9) == 0 ? up(5) : 2 + up(3);
        for (int s = 0; s < suppliers; s++) {
            text.append("supplier rank " + up(up(1) == 0 ? 9 : 2) + ";");
        }
        int incomes = up(6);
        for (int left = bills + incomes; left > 0; left--) {
            // Bills and cash stand in any order: each kind has numbers of its own.
            boolean isBill = random.nextInt(left) < bills;
            bills -= isBill ? 1 : 0;
            text.append(isBill ? bill(scale, suppliers) : "cash " + (1 + up(scale - 1)) + " on " + up(6) + ";");
        }
        return up(3) == 0 ? spoilt(text) : text.toString();
    }

    private String bill(int scale, int suppliers) {
        int sum = 1 + up(scale - 1);
        String held = up(2) == 0 ? " held " + up(sum) : "";
        return "bill of " + up(suppliers - 1) + " sum " + sum + " off " + up(20) + " by " + up(6) + " due " + up(6) + " late "
                + up(List.of(2, 20, 99).get(up(2))) + held + ";";
    }

    private String spoilt(StringBuilder text) {
        String[] bits = {"", " ", "\n", ";", "9", "0", "a", "held 1", "desk", "supplier rank 1;", "cash 1 on 1;", "\t", "\u00e9", "A",
            "bill of 0 sum 1 off 0 by 0 due 0 late 0;", "bill of 0 sum 1 off 0 by 0 due 0 late 0 held 2;"};
        for (int i = up(2); i >= 0 && text.length() > 0; i--) {
            int at = up(text.length() - 1);
            text.replace(at, Math.min(text.length(), at + up(3)), bits[up(bits.length - 1)]);
        }
        return text.toString();
    }
}
