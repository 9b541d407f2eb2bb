import java.nio.charset.StandardCharsets;
import java.util.ArrayList;
import java.util.List;
import java.util.Random;
import java.util.regex.Matcher;
import java.util.regex.Pattern;

/** Promises 4 and 5 on texts drawn and spoilt, beside a reader that walks over patterns of lines. */
public final class TextTest {
    private static final String[] LINES = {"desk days # law # odds # cash # floor # fee # ;", "supplier rank # ;",
        "bill of # sum # off # by # due # late # ;", "bill of # sum # off # by # due # late # held # ;", "cash # on # ;"};
    private static final Pattern TOKEN = Pattern.compile("[a-z]+|[0-9]+|[^ \\n]", Pattern.DOTALL);
    private static final String[] PIECES = {"desk", "days", "law", "odds", "cash", "floor", "fee", "supplier", "rank", "bill",
        "of", "sum", "off", "by", "due", "late", "held", "on", ";", " ", "\n", "0", "1", "3", "7", "21", "3001", "99999999999",
        "X", "\t", "\u0000", "\u00ff", "a", "-"};

    public static void main(String[] args) {
        int texts = args.length > 0 ? Integer.parseInt(args[0]) : 20000;
        PaymentRuns runs = new PaymentRuns();
        for (int seed = 0; seed < texts; seed++) {
            if (seed % 5 == 0) {
                runs = new PaymentRuns();
            }
            Random random = new Random(seed);
            String text = spoil(draw(random), random);
            Check.tape(runs, text.getBytes(StandardCharsets.ISO_8859_1));
            int before = runs.count(10);
            int[] due = read(text);
            String of = " of '" + text + "'";
            Check.same("desk()" + of, runs.desk(), due[0]);
            Check.same("fault(0)" + of, runs.fault(0), due[1]);
            Check.same("fault(1)" + of, runs.fault(1), due[2]);
            Check.same("count(10)" + of, runs.count(10), due[0] < 0 ? before : due[0]);
        }
        Check.end();
    }

    private static String draw(Random random) {
        StringBuilder text = new StringBuilder(fill(LINES[0], random));
        int lines = random.nextInt(14);
        text.append(lines > 0 && random.nextInt(4) > 0 ? fill(LINES[1], random) : "");
        for (int i = 0; i < lines && text.length() < 600; i++) {
            text.append(fill(LINES[1 + random.nextInt(4)], random));
        }
        return text.length() <= 640 ? text.toString() : text.substring(0, 640);
    }

    private static String fill(String line, Random random) {
        StringBuilder text = new StringBuilder();
        for (String piece : line.split(" ")) {
            boolean zeros = random.nextInt(20) == 0;
            int most = random.nextInt(40) == 0 ? 9 : 2;
            text.append(piece.equals("#") ? (zeros ? "00" : "") + (1 + random.nextInt(most) - (random.nextInt(6) == 0 ? 1 : 0)) : piece);
            text.append(random.nextInt(30) == 0 ? "\n" : piece.equals(";") ? "" : " ");
        }
        return text.toString();
    }

    private static String spoil(String text, Random random) {
        String spoilt = text;
        for (int times = random.nextInt(3); times > 0; times--) {
            int at = random.nextInt(spoilt.length() + 1);
            String piece = PIECES[random.nextInt(PIECES.length)];
            switch (random.nextInt(3)) {
                case 0: spoilt = spoilt.substring(0, at) + piece + spoilt.substring(at); break;
                case 1: spoilt = spoilt.substring(0, at); break;
                default: spoilt = spoilt.substring(0, at) + spoilt.substring(Math.min(spoilt.length(), at + 1)); break;
            }
        }
        return spoilt;
    }

    /** What desk(), fault(0), fault(1) answer. */
    private static int[] read(String text) {
        List<String> tokens = new ArrayList<>();
        List<Integer> places = new ArrayList<>();
        Matcher matcher = TOKEN.matcher(text);
        while (matcher.find()) {
            tokens.add(matcher.group());
            places.add(matcher.start());
        }
        tokens.add("");
        places.add(text.length());
        int[] told = new int[LINES.length];
        int lines = 0;
        int at = 0;
        while (!tokens.get(at).isEmpty()) {
            int line = lineOf(tokens, at, lines);
            int fault = line < 0 ? 1 : tooMany(line, told) ? 3 : 0;
            if (fault != 0) {
                return new int[] {-4, fault, places.get(at)};
            }
            String[] pattern = LINES[line].split(" ");
            int sum = 0;
            for (int i = 0; i < pattern.length; i++, at++) {
                fault = faultOf(pattern, i, tokens.get(at), told[1], sum);
                if (fault != 0) {
                    return new int[] {-4, fault, places.get(at)};
                }
                sum = i > 0 && pattern[i - 1].equals("sum") ? Integer.parseInt(tokens.get(at)) : sum;
            }
            told[line]++;
            lines++;
        }
        return new int[] {lines, 0, -1};
    }

    private static int lineOf(List<String> tokens, int at, int lines) {
        switch (tokens.get(at)) {
            case "desk": return lines == 0 ? 0 : -1;
            case "supplier": return lines > 0 ? 1 : -1;
            case "bill": return lines == 0 ? -1 : at + 13 < tokens.size() && tokens.get(at + 13).equals("held") ? 3 : 2;
            case "cash": return lines > 0 ? 4 : -1;
            default: return -1;
        }
    }

    private static boolean tooMany(int line, int[] told) {
        return line == 1 && told[1] == 4 || line == 4 && told[4] == 6 || (line == 2 || line == 3) && told[2] + told[3] == 5;
    }

    private static int faultOf(String[] pattern, int i, String token, int suppliers, int sum) {
        if (!pattern[i].equals("#")) {
            return pattern[i].equals(token) ? 0 : 1;
        }
        if (!token.matches("[0-9]+")) {
            return 1;
        }
        double n = Double.parseDouble(token);
        int[] bounds = bounds(pattern[0], pattern[i - 1], suppliers, sum);
        return n < bounds[0] || n > bounds[1] ? 2 : 0;
    }

    private static int[] bounds(String line, String word, int suppliers, int sum) {
        switch (word) {
            case "days": return new int[] {1, 7};
            case "law": return new int[] {0, 3};
            case "odds": return new int[] {0, 10};
            case "cash": return line.equals("desk") ? new int[] {0, 9999} : new int[] {1, 3000};
            case "floor": return new int[] {0, 5000};
            case "fee": return new int[] {0, 200};
            case "rank": return new int[] {0, 9};
            case "of": return new int[] {0, suppliers - 1};
            case "sum": return new int[] {1, 3000};
            case "off": return new int[] {0, 20};
            case "late": return new int[] {0, 99};
            case "held": return new int[] {0, sum};
            default: return new int[] {0, 6};
        }
    }
}
