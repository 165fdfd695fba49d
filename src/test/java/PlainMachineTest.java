import java.lang.reflect.Method;
import java.util.HashMap;
import java.util.List;
import java.util.Map;
import java.util.Random;

/** Runs of calls by chance, each call asked of the class and of PlainMachine: the answers are the same. */
public final class PlainMachineTest {
    private static final Check CHECK = new Check("PlainMachineTest");
    private static final int RUNS = 1500;
    private static final int CALLS = 512;
    private static final int MOST_ROWS = 13;
    private static final long[] EDGES = {Long.MIN_VALUE, Integer.MIN_VALUE, -40001, -40000, -9, -2, -1, 0, 1, 2, 4, 5,
        6, 9, 10, 14, 15, 25, 26, 27, 50, 51, 149, 150, 1000, 1001, 20000, 20001, 1000000, 1000001, 1000000000,
        1000000001, 2000000000, 2000000001, Integer.MAX_VALUE, 1L << 32, Long.MAX_VALUE};
    private static final List<String> SOUND_LINES = List.of("age 10950;", "age 11000 ;", "age 11001;", "age 0;",
        "pay 0;", "pay 7;", "pay 99999;", "fifth 0;", "fifth 1;", "fifth 99999;", "tie acquit;", "tie convict;",
        "tie\nconvict ;", "suit 0 water 30 fine 3;", "suit 0 water 30 over 0 water 31 fine 3;", "suit 1 water 3 fine 0;",
        "suit1water3over50water9fine70;", "suit 2 water 0 fine 99999;", "suit 5 water 99999 over 99999 water 1 fine 1;");
    private static final List<String> ANY_TOKENS = List.of("age", "pay", "fifth", "tie", "acquit", "convict", "suit",
        "water", "over", "fine", ";", ";", ";", "0", "5", "6", "00005", "99999", "100000", "000001", "agee", "?", "A",
        "\u00e1", "\u0000", "\t", "\r");

    private static final Map<String, Method> OF_CLASS = methodsOf(LotMachine.class);
    private static final Map<String, Method> OF_PLAIN = methodsOf(PlainMachine.class);

    private final LotMachine x = new LotMachine();
    private final PlainMachine plain = new PlainMachine();
    private final Random random;
    private final String name;
    private final boolean wild;
    private final boolean many;
    private int calls;
    private boolean unlike;

    private PlainMachineTest(int run) {
        random = new Random(run);
        name = "run " + run;
        wild = run % 4 == 0;
        many = run % 10 == 9;
    }

    public static void main(String[] args) throws Exception {
        CHECK.due("calls that both have", OF_PLAIN.keySet().equals(OF_CLASS.keySet()) ? 1 : 0, 1);
        for (int run = 0; run < RUNS; run++) {
            new PlainMachineTest(run).run();
        }
        CHECK.end();
    }

    private static Map<String, Method> methodsOf(Class<?> type) {
        Map<String, Method> found = new HashMap<>();
        for (Method method : type.getDeclaredMethods()) {
            boolean known = List.of(LotMachine.class.getMethods()).stream().anyMatch(
                m -> m.getName().equals(method.getName()) && m.getDeclaringClass() == LotMachine.class);
            if (known) {
                found.put(method.getName(), method);
            }
        }
        return found;
    }

    private static long answer(Object of, Method method, long[] args) throws Exception {
        Object[] given = new Object[args.length];
        for (int i = 0; i < args.length; i++) {
            boolean wide = method.getParameterTypes()[i] == long.class;
            given[i] = wide ? (Object) args[i] : (Object) (int) args[i];
        }
        return ((Number) method.invoke(of, given)).longValue();
    }

    /** Asks both; behind the first answer that is unlike, the run is over. */
    private long ask(String call, long... args) throws Exception {
        if (calls >= CALLS || unlike) {
            return LotMachine.NONE;
        }
        calls++;
        long got = answer(x, OF_CLASS.get(call), args);
        long want = answer(plain, OF_PLAIN.get(call), args);
        StringBuilder told = new StringBuilder(name + ", call " + calls + ": " + call);
        for (long arg : args) {
            told.append(' ').append(arg);
        }
        CHECK.due(told.toString(), got, want);
        unlike = got != want;
        return got;
    }

    private void run() throws Exception {
        for (int i = 0; i < 2; i++) {
            ask("citizen", 9, i, -1 - random.nextInt(12000));
        }
        if (random.nextBoolean()) {
            tellLaws();
        }
        int rows = many ? MOST_ROWS : 1 + random.nextInt(6);
        for (int i = 0; i < 5 * rows; i++) {
            ask("swear", ask("citizen", many ? 0 : random.nextInt(8) / 7, i % 5, -11000));
        }
        dawn();
        while (calls < CALLS && !unlike) {
            oneDeed();
        }
    }

    private void dawn() throws Exception {
        int people = plain.count(0);
        for (int c = 0; c < people; c++) {
            if (random.nextInt(25) > 0) {
                ask("come", c);
            }
        }
        for (int tribe = 0; tribe < 2; tribe++) {
            int w = Math.max(random.nextInt(plain.rows(tribe) + 1), random.nextInt(plain.rows(tribe) + 1));
            ask("draw", tribe, w, random.nextInt((int) plain.draws(tribe, w)));
        }
        for (int court = 0; court < 2 + random.nextInt(4); court++) {
            int size = 1 + 2 * random.nextInt(3);
            ask("open", court, size);
            for (int i = 0; i < size - random.nextInt(6) / 5; i++) {
                ask("lot", court);
            }
        }
    }

    private void oneDeed() throws Exception {
        switch (random.nextInt(wild ? 6 : 14)) {
            case 0: anyQuestion(); break;
            case 1: anyDeed(); break;
            case 2: money(); break;
            case 3:
                if (random.nextInt(5) == 0) {
                    tellLaws();
                }
                break;
            case 4:
                if (random.nextInt(9) == 0) {
                    ask("now", number(plain.count(1) + 3));
                    dawn();
                }
                break;
            case 5: counts(); break;
            default: inCourt(someCourt()); break;
        }
    }

    /** One that is full, if chance finds it soon. */
    private int someCourt() {
        int court = random.nextInt(5);
        for (int i = 0; i < 4 && (plain.court(court, 0) == 0 || plain.court(court, 1) < plain.court(court, 0)); i++) {
            court = (court + 1) % 5;
        }
        return court;
    }

    private long number(int bound) {
        if (random.nextInt(wild ? 8 : 80) == 0) {
            return EDGES[random.nextInt(EDGES.length)];
        }
        return random.nextInt(Math.max(1, bound));
    }

    private long citizen() {
        return number(plain.count(0));
    }

    private void tellLaws() throws Exception {
        StringBuilder text = new StringBuilder();
        List<String> parts = random.nextInt(3) == 0 ? ANY_TOKENS : SOUND_LINES;
        for (int i = random.nextInt(5); i >= 0; i--) {
            text.append(parts.get(random.nextInt(parts.size())));
            text.append(" \n".repeat(random.nextInt(3)));
        }
        if (random.nextInt(6) == 0) {
            text.setLength(random.nextInt(text.length() + 1));
        }
        int before = plain.count(6);
        for (int from = 0; from < text.length(); from += 20) {
            long[] words = new long[5];
            for (int i = 0; i < 20; i++) {
                int value = from + i < text.length() ? text.charAt(from + i) : 'z';
                words[i / 4] = (int) (words[i / 4] << 8 | value);
            }
            ask("feed", words);
        }
        if (before + text.length() <= plain.count(6)) {
            ask("end", before + text.length());
        }
        ask("laws", plain.count(1) + number(3));
        ask("fault", 0);
        ask("fault", 1);
    }

    private void money() throws Exception {
        int c = random.nextBoolean() ? (int) citizen() : plain.seat(random.nextInt(5), random.nextInt(5));
        long owed = plain.about(c, 4);
        long[] sums = {1, 1000, 1000000000, 1000000001, 2000000000 - owed, 2000000001 - owed, owed, owed, owed + 1, 0};
        long sum = sums[random.nextInt(sums.length)];
        if (random.nextBoolean()) {
            ask("owe", c, sum, number(plain.count(1) + 1));
        } else {
            ask("pay", c, sum);
        }
    }

    private void counts() throws Exception {
        int tribe = (int) number(2);
        int rows = plain.rows(tribe);
        long bits = random.nextLong() & random.nextLong() & (rows > 11 ? -1L >>> 4 : (1L << 5 * Math.max(0, rows)) - 1);
        ask("rows", tribe);
        ask("draws", tribe, number(rows + 2));
        ask("chances", citizen(), number(rows + 2));
        ask("bribed", tribe, number(rows + 2), bits, number(12));
        ask("bribed", tribe, number(rows + 1), random.nextLong() >>> random.nextInt(64), number(4));
    }

    private void inCourt(int court) throws Exception {
        if (plain.court(court, 2) == 0) {
            ask("suit", court, number(6), citizen(), citizen(), number(120));
            return;
        }
        switch (random.nextInt(12)) {
            case 0: ask("speak", court, number(2), 1 + number(6)); break;
            case 1: ask("witness", court); break;
            case 2: closeAndLook(court); break;
            case 3: ask("court", court, number(15)); break;
            case 4: ask("owe", plain.seat(court, random.nextInt(5)), 1 + number(5), number(plain.count(1) + 1)); break;
            case 5: ask("owe", plain.court(court, 4 + random.nextInt(2)), 1000000000, 0); break;
            default: ask("disc", court, plain.seat(court, random.nextInt(5)), number(2)); break;
        }
    }

    private void closeAndLook(int court) throws Exception {
        if (ask("close", court) != LotMachine.STATE) {
            for (int what = 2; what < 15; what++) {
                ask("court", court, what);
            }
            ask("about", plain.court(court, 4), 4);
            ask("about", plain.court(court, 5), 4);
            ask("about", plain.seat(court, 0), 9);
            ask("count", 8);
        }
    }

    private void anyQuestion() throws Exception {
        switch (random.nextInt(9)) {
            case 0: ask("law", number(plain.count(1) + 4), number(52)); break;
            case 1: ask("about", citizen(), number(11)); break;
            case 2: ask("chosen", number(40)); break;
            case 3: ask("seat", number(5), number(6)); break;
            case 4: ask("count", number(10)); break;
            case 5: ask("fault", number(3)); break;
            case 6: ask("rows", number(10)); break;
            default: ask("court", number(5), number(16)); break;
        }
    }

    private void anyDeed() throws Exception {
        switch (random.nextInt(14)) {
            case 0: ask("feed", random.ints(5).asLongStream().toArray()); break;
            case 1: ask("end", number(40)); break;
            case 2: ask("laws", number(plain.count(1) + 5)); break;
            case 3: ask("citizen", number(10), number(5), -number(40001)); break;
            case 4: ask("swear", citizen()); break;
            case 5: ask("owe", citizen(), number(1000), number(plain.count(1) + 2)); break;
            case 6: ask("come", citizen()); break;
            case 7: ask("draw", number(10), number(4), number(6)); break;
            case 8: ask("open", number(5), number(26)); break;
            case 9: ask("lot", number(5)); break;
            case 10: ask("speak", number(5), number(2), number(9)); break;
            case 11: ask("witness", number(5)); break;
            case 12: ask("close", number(5)); break;
            default: ask("disc", number(5), citizen(), number(2)); break;
        }
    }
}
