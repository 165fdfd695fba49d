import java.util.Random;

/** Any calls in any state: none throws, the same calls give the same answers, and some things always hold. */
public final class AnyCallsTest {
    private static final Check CHECK = new Check("AnyCallsTest");
    private static final int RUNS = 3000;
    private static final int CALLS = 512;
    private static final int[] ODD_ONES = {Integer.MIN_VALUE, Integer.MIN_VALUE + 1, -40001, -40000, -2, -1, 5, 6, 10,
        25, 26, 30, 50, 149, 150, 1000, 1001, 20000, 20001, 1000000, 1000001, 1000000000, 2000000000,
        Integer.MAX_VALUE - 1, Integer.MAX_VALUE};
    private static final String[] WORDS = {"age", "pay", "fifth", "tie", "acquit", "convict", "suit", "water", "over",
        "fine", ";", ";", ";", " ", "\n", "0", "5", "6", "123", "99999", "100000", "agee", "?", "A", "\u00ff", "\u0000"};
    private static final String[] LINES = {"age 5;", "pay 9;", "fifth 4;", "tie convict;", "tie acquit;",
        "suit 0 water 30 fine 3;", "suit 1 water 3 over 50 water 9 fine 70;", "suit 2 water 0 fine 99999;"};

    public static void main(String[] args) {
        for (int run = 0; run < RUNS; run++) {
            LotMachine x = new LotMachine();
            LotMachine twin = new LotMachine();
            Random calls = new Random(run);
            Random sameCalls = new Random(run);
            int wildness = run % 3;
            prepare(x, wildness);
            prepare(twin, wildness);
            for (int i = 0; i < CALLS; i++) {
                String name = "run " + run + ", call " + i;
                CHECK.due(name, oneCall(x, calls, wildness), oneCall(twin, sameCalls, wildness));
            }
            always(x, run);
        }
        CHECK.end();
    }

    /** Tame runs begin with people who come, so that they get as far as courts. */
    private static void prepare(LotMachine x, int wildness) {
        if (wildness < 2) {
            Check.rowsCome(x, 0, 6);
            Check.rowsCome(x, 1, 3);
        }
    }

    private static void always(LotMachine x, int run) {
        String name = "run " + run;
        int chosen = x.count(3);
        CHECK.due(name + ": whole rows are chosen", chosen % 5, 0);
        CHECK.due(name + ": no more lots than chosen", Math.max(x.count(4), chosen), chosen);
        CHECK.due(name + ": no more chosen than came", Math.max(x.count(2), chosen), x.count(2));
        int sitting = 0;
        for (int court = 0; court < 5; court++) {
            sitting += x.court(court, 1);
            int told = x.court(court, 9);
            CHECK.due(name + ": discs of court " + court, Math.max(told, x.court(court, 1)), x.court(court, 1));
        }
        CHECK.due(name + ": each with a lot sits", sitting, x.count(4));
        int pay = 0;
        int came = 0;
        for (int c = 0; c < x.count(0); c++) {
            pay += x.about(c, 9);
            came += x.about(c, 6) >= 0 ? 1 : 0;
        }
        CHECK.due(name + ": pay in all", pay, x.count(8));
        CHECK.due(name + ": came in all", came, x.count(2));
    }

    private static int number(Random random, int bound, int wildness) {
        if (random.nextInt(wildness == 0 ? 60 : 12) == 0) {
            return ODD_ONES[random.nextInt(ODD_ONES.length)];
        }
        return random.nextInt(bound);
    }

    private static void writeSomething(LotMachine x, Random random) {
        StringBuilder text = new StringBuilder();
        String[] parts = random.nextBoolean() ? WORDS : LINES;
        int count = random.nextInt(12);
        for (int i = 0; i < count; i++) {
            text.append(parts[random.nextInt(parts.length)]);
            text.append(random.nextInt(3) == 0 ? "" : " ");
        }
        Check.write(x, text.toString());
    }

    private static long oneCall(LotMachine x, Random r, int w) {
        switch (r.nextInt(31)) {
            case 0: return x.feed(r.nextInt(), r.nextInt(), r.nextInt(), r.nextInt(), r.nextInt());
            case 1: return x.end(number(r, 60, w));
            case 2:
                writeSomething(x, r);
                return x.laws(x.count(1) + number(r, 3, 0));
            case 3: return x.fault(number(r, 2, w));
            case 4: return x.law(number(r, 60, w), number(r, 52, w));
            case 5: return x.citizen(number(r, 3, w), number(r, 5, w), -number(r, 12000, w));
            case 6: return x.swear(number(r, 60, w));
            case 7: return x.owe(number(r, 50, w), number(r, 100, w), number(r, 1 + x.count(1), w));
            case 8: return x.pay(number(r, 50, w), number(r, 40, w));
            case 9: return x.about(number(r, 60, w), number(r, 10, w));
            case 10: return r.nextInt(20) == 0 ? x.now(x.count(1) + number(r, 3, w)) : 0;
            case 11: return x.come(number(r, 60, w));
            case 12: return x.rows(number(r, 4, w));
            case 13: return x.draws(number(r, 3, w), number(r, 6, w));
            case 14: return x.draw(number(r, 3, w), number(r, 6, w), number(r, 4, w));
            case 15: return x.chances(number(r, 60, w), number(r, 6, w));
            case 16: return x.bribed(number(r, 3, w), number(r, 6, w), r.nextLong() >>> r.nextInt(64), number(r, 9, w));
            case 17: return x.chosen(number(r, 30, w));
            case 18: return x.open(number(r, 5, w), 1 + 2 * r.nextInt(3));
            case 19: return x.open(number(r, 5, w), number(r, 26, w));
            case 20: return x.lot(number(r, 5, w));
            case 21: return x.lot(number(r, 5, w));
            case 22: return x.seat(number(r, 5, w), number(r, 9, w));
            case 23: return x.suit(number(r, 5, w), number(r, 6, w), number(r, 45, w), number(r, 45, w), number(r, 99, w));
            case 24: return x.speak(number(r, 5, w), number(r, 2, w), number(r, 5, w));
            case 25: return x.witness(number(r, 5, w));
            case 26: return x.close(number(r, 5, w));
            case 27: return x.court(number(r, 5, w), number(r, 15, w));
            case 28: return x.count(number(r, 9, w));
            default:
                int court = number(r, 5, w);
                return x.disc(court, x.seat(court, r.nextInt(5)), number(r, 2, w));
        }
    }
}
