/** Promises 12 to 19: the clock, who comes, rows, draws and their counts. */
public final class DawnTest {
    private static final Check CHECK = new Check("DawnTest");

    public static void main(String[] args) {
        theClock();
        coming();
        rowsByTheShortestColumn();
        drawing();
        tribesInTheOrderOfTheirDraws();
        aDrawOfNoRows();
        chancesOfOne();
        bribedEdges();
        aNewDay();
        countsAgainstAllWays();
        theMostRows();
        CHECK.end();
    }

    private static void theClock() {
        LotMachine x = new LotMachine();
        CHECK.due("now(0)", x.now(0), -2);
        CHECK.due("now(-1)", x.now(-1), -2);
        CHECK.due("now(20001)", x.now(20001), -2);
        CHECK.due("now(7)", x.now(7), 7);
        CHECK.due("now(7) again", x.now(7), -2);
        CHECK.due("now(6)", x.now(6), -2);
        CHECK.due("count(1)", x.count(1), 7);
        CHECK.due("now(20000)", x.now(20000), 20000);
        CHECK.due("now(20001)", x.now(20001), -2);
        CHECK.due("count(1)", x.count(1), 20000);
    }

    private static void coming() {
        LotMachine x = new LotMachine();
        CHECK.due("come(0) of nobody", x.come(0), -2);
        int a = Check.sworn(x, 4, 3);
        int b = Check.sworn(x, 4, 3);
        int c = x.citizen(4, 3, -11000);
        int d = Check.sworn(x, 4, 2);
        CHECK.due("come(-1)", x.come(-1), -2);
        CHECK.due("come(4)", x.come(4), -2);
        CHECK.due("come(c) unsworn", x.come(c), -4);
        CHECK.due("come(b)", x.come(b), 1);
        CHECK.due("come(a)", x.come(a), 2);
        CHECK.due("come(a) again", x.come(a), -4);
        CHECK.due("come(d), another column", x.come(d), 1);
        x.swear(c);
        x.owe(c, 1, 0);
        CHECK.due("come(c) with debt", x.come(c), -4);
        x.pay(c, 1);
        CHECK.due("come(c)", x.come(c), 3);
        CHECK.due("place of b", x.about(b, 6), 0);
        CHECK.due("place of a", x.about(a, 6), 1);
        CHECK.due("place of c", x.about(c, 6), 2);
        CHECK.due("place of d", x.about(d, 6), 0);
        CHECK.due("count(2)", x.count(2), 4);
    }

    private static void rowsByTheShortestColumn() {
        LotMachine x = new LotMachine();
        int[] columns = {3, 2, 4, 2, 5};
        for (int letter = 0; letter < 5; letter++) {
            CHECK.due("rows ahead of letter " + letter, x.rows(9), 0);
            for (int i = 0; i < columns[letter]; i++) {
                x.come(Check.sworn(x, 9, letter));
            }
        }
        CHECK.due("rows(9)", x.rows(9), 2);
        CHECK.due("rows(8)", x.rows(8), 0);
        CHECK.due("rows(-1)", x.rows(-1), -2);
        CHECK.due("rows(10)", x.rows(10), -2);
        CHECK.due("draws(9, 0)", x.draws(9, 0), 1);
        CHECK.due("draws(9, 1)", x.draws(9, 1), 2);
        CHECK.due("draws(9, 2)", x.draws(9, 2), 1);
        CHECK.due("draws(9, 3)", x.draws(9, 3), -2);
        CHECK.due("draws(9, -1)", x.draws(9, -1), -2);
        CHECK.due("draws(-1, 0)", x.draws(-1, 0), -2);
        CHECK.due("draws(10, 0)", x.draws(10, 0), -2);
        CHECK.due("draws(8, 0)", x.draws(8, 0), 1);
        CHECK.due("draws(8, 1)", x.draws(8, 1), -2);
        // Columns are 0 1 2, 3 4, 5 6 7 8, 9 10, 11 12 13 14 15.
        CHECK.due("draw(9, 2, 0)", x.draw(9, 2, 0), 10);
        int[] want = {0, 3, 5, 9, 11, 1, 4, 6, 10, 12};
        for (int i = 0; i < want.length; i++) {
            CHECK.due("chosen(" + i + ")", x.chosen(i), want[i]);
        }
        CHECK.due("beyond the rows", x.about(2, 7), 0);
        CHECK.due("beyond the rows there is a place", x.about(15, 6), 4);
    }

    private static void drawing() {
        LotMachine x = new LotMachine();
        Check.rowsCome(x, 1, 3);
        CHECK.due("draw(-1, 1, 0)", x.draw(-1, 1, 0), -2);
        CHECK.due("draw(10, 1, 0)", x.draw(10, 1, 0), -2);
        CHECK.due("draw(1, -1, 0)", x.draw(1, -1, 0), -2);
        CHECK.due("draw(1, 4, 0)", x.draw(1, 4, 0), -2);
        CHECK.due("draw(1, 2, -1)", x.draw(1, 2, -1), -2);
        CHECK.due("draw(1, 2, 3)", x.draw(1, 2, 3), -2);
        CHECK.due("draw(1, 2, 2^32)", x.draw(1, 2, 1L << 32), -2);
        CHECK.due("nobody is chosen", x.count(3), 0);
        int late = Check.sworn(x, 1, 0);
        CHECK.due("draw(1, 2, 2)", x.draw(1, 2, 2), 10);
        CHECK.due("draw again", x.draw(1, 2, 2), -4);
        CHECK.due("draw again, no such number", x.draw(1, 2, 3), -2);
        CHECK.due("come late", x.come(late), -4);
        CHECK.due("chosen(0)", x.chosen(0), 5);
        CHECK.due("chosen(9)", x.chosen(9), 14);
        CHECK.due("chosen(10)", x.chosen(10), -1);
        CHECK.due("chosen(-1)", x.chosen(-1), -1);
        CHECK.due("about(4, 7)", x.about(4, 7), 0);
        CHECK.due("about(5, 7)", x.about(5, 7), 1);
        CHECK.due("count(3)", x.count(3), 10);
        CHECK.due("rows stay", x.rows(1), 3);
        CHECK.due("draws stay", x.draws(1, 2), 3);
        CHECK.due("chances stay", x.chances(0, 2), 2);
    }

    private static void tribesInTheOrderOfTheirDraws() {
        LotMachine x = new LotMachine();
        Check.rowsCome(x, 0, 1);
        Check.rowsCome(x, 7, 1);
        CHECK.due("draw(7, 1, 0)", x.draw(7, 1, 0), 5);
        CHECK.due("another tribe comes on", x.come(Check.sworn(x, 0, 1)), 2);
        CHECK.due("draw(0, 1, 0)", x.draw(0, 1, 0), 5);
        for (int i = 0; i < 10; i++) {
            CHECK.due("chosen(" + i + ")", x.chosen(i), (i + 5) % 10);
        }
    }

    private static void aDrawOfNoRows() {
        LotMachine x = new LotMachine();
        int c = Check.sworn(x, 0, 0);
        CHECK.due("draw(0, 0, 1)", x.draw(0, 0, 1), -2);
        CHECK.due("draw(0, 0, 0)", x.draw(0, 0, 0), 0);
        CHECK.due("it has drawn", x.draw(0, 0, 0), -4);
        CHECK.due("nobody of it comes", x.come(c), -4);
    }

    private static void chancesOfOne() {
        LotMachine x = new LotMachine();
        Check.rowsCome(x, 2, 4);
        int extra = Check.sworn(x, 2, 0);
        int absent = Check.sworn(x, 2, 0);
        x.come(extra);
        CHECK.due("chances(-1, 1)", x.chances(-1, 1), -2);
        CHECK.due("chances(22, 1)", x.chances(22, 1), -2);
        CHECK.due("chances(0, -1)", x.chances(0, -1), -2);
        CHECK.due("chances(0, 5)", x.chances(0, 5), -2);
        CHECK.due("absent, no such w", x.chances(absent, 5), -2);
        CHECK.due("absent", x.chances(absent, 4), -4);
        CHECK.due("left out", x.chances(extra, 4), 0);
        int[] want = {0, 1, 3, 3, 1};
        for (int w = 0; w <= 4; w++) {
            CHECK.due("chances(19, " + w + ")", x.chances(19, w), want[w]);
        }
    }

    private static void bribedEdges() {
        LotMachine x = new LotMachine();
        CHECK.due("no rows, no bits", x.bribed(0, 0, 0, 0), 1);
        CHECK.due("no rows, m 1", x.bribed(0, 0, 0, 1), 0);
        CHECK.due("no rows, a bit", x.bribed(0, 0, 1, 0), -2);
        Check.rowsCome(x, 0, 2);
        CHECK.due("tribe -1", x.bribed(-1, 0, 0, 0), -2);
        CHECK.due("tribe 10", x.bribed(10, 0, 0, 0), -2);
        CHECK.due("w -1", x.bribed(0, -1, 0, 0), -2);
        CHECK.due("w 3", x.bribed(0, 3, 0, 0), -2);
        CHECK.due("m -1", x.bribed(0, 1, 0, -1), -2);
        CHECK.due("bit 10", x.bribed(0, 1, 1L << 10, 0), -2);
        CHECK.due("bit 63", x.bribed(0, 1, Long.MIN_VALUE, 0), -2);
        CHECK.due("bit 9", x.bribed(0, 1, 1L << 9, 1), 1);
        CHECK.due("m MAX", x.bribed(0, 2, 1023, Integer.MAX_VALUE), 0);
        CHECK.due("m 10", x.bribed(0, 2, 1023, 10), 1);
        CHECK.due("m 11", x.bribed(0, 2, 1023, 11), 0);
    }

    private static void aNewDay() {
        LotMachine x = new LotMachine();
        Check.rowsCome(x, 3, 2);
        x.draw(3, 1, 1);
        x.open(2, 3);
        x.lot(2);
        CHECK.due("about(5, 8)", x.about(5, 8), 2);
        x.now(1);
        for (int what = 2; what <= 4; what++) {
            CHECK.due("count(" + what + ")", x.count(what), 0);
        }
        CHECK.due("about(5, 6)", x.about(5, 6), -1);
        CHECK.due("about(5, 7)", x.about(5, 7), 0);
        CHECK.due("about(5, 8)", x.about(5, 8), -1);
        CHECK.due("rows(3)", x.rows(3), 0);
        CHECK.due("chosen(0)", x.chosen(0), -1);
        CHECK.due("court(2, 0)", x.court(2, 0), 0);
        CHECK.due("court(2, 1)", x.court(2, 1), 0);
        CHECK.due("seat(2, 0)", x.seat(2, 0), -1);
        CHECK.due("lot(2)", x.lot(2), -4);
        CHECK.due("open(2, 1)", x.open(2, 1), 1);
        CHECK.due("lot(2)", x.lot(2), -1);
        CHECK.due("come(9) first", x.come(9), 1);
        CHECK.due("come(4) second", x.come(4), 2);
        CHECK.due("about(9, 6)", x.about(9, 6), 0);
    }

    /** For up to six rows: every way is drawn once, in order, and the counts are what the ways show. */
    private static void countsAgainstAllWays() {
        for (int rows = 0; rows <= 6; rows++) {
            LotMachine x = new LotMachine();
            Check.rowsCome(x, 5, rows);
            int day = 0;
            for (int w = 0; w <= rows; w++) {
                int ways = 0;
                int withRowZero = 0;
                long bits = 0x15a3c9e5L * 77 & (1L << 5 * rows) - 1;
                int[] atLeast = new int[40];
                for (int[] way = firstWay(w); way != null; way = nextWay(way, rows)) {
                    withRowZero += w > 0 && way[0] == 0 ? 1 : 0;
                    int bribed = 0;
                    for (int row : way) {
                        bribed += Long.bitCount(bits >> 5 * row & 31);
                    }
                    for (int m = 0; m <= bribed; m++) {
                        atLeast[m]++;
                    }
                    ways++;
                }
                String of = rows + " rows, w " + w;
                CHECK.due("draws of " + of, x.draws(5, w), ways);
                if (rows > 0) {
                    CHECK.due("chances of " + of, x.chances(0, w), withRowZero);
                    CHECK.due("chances of the last of " + of, x.chances(5 * rows - 1, w), withRowZero);
                }
                for (int m = 0; m < 32; m += 1 + m / 12) {
                    CHECK.due("bribed of " + of + ", m " + m, x.bribed(5, w, bits, m), atLeast[m]);
                }
            }
        }
        for (int rows = 1; rows <= 5; rows++) {
            for (int w = 1; w <= rows; w++) {
                long number = 0;
                for (int[] way = firstWay(w); way != null; way = nextWay(way, rows)) {
                    LotMachine x = new LotMachine();
                    Check.rowsCome(x, 5, rows);
                    CHECK.due("draw " + number, x.draw(5, w, number), 5 * w);
                    for (int i = 0; i < 5 * w; i++) {
                        CHECK.due(rows + " rows, w " + w + ", number " + number + ", chosen(" + i + ")",
                            x.chosen(i), way[i / 5] * 5 + i % 5);
                    }
                    number++;
                }
            }
        }
    }

    private static int[] firstWay(int w) {
        int[] way = new int[w];
        for (int i = 0; i < w; i++) {
            way[i] = i;
        }
        return way;
    }

    private static int[] nextWay(int[] way, int rows) {
        int w = way.length;
        for (int i = w - 1; i >= 0; i--) {
            if (way[i] < rows - w + i) {
                int[] next = way.clone();
                next[i]++;
                for (int j = i + 1; j < w; j++) {
                    next[j] = next[j - 1] + 1;
                }
                return next;
            }
        }
        return null;
    }

    private static void theMostRows() {
        LotMachine x = new LotMachine();
        Check.rowsCome(x, 6, 30);
        long allTold = (1L << 60) - 1;
        CHECK.due("rows(6)", x.rows(6), 30);
        CHECK.due("draws(6, 15)", x.draws(6, 15), 155117520L);
        CHECK.due("draws(6, 30)", x.draws(6, 30), 1);
        CHECK.due("draws(6, 29)", x.draws(6, 29), 30);
        CHECK.due("chances(149, 15)", x.chances(149, 15), 77558760L);
        CHECK.due("bribed, m 0", x.bribed(6, 15, allTold, 0), 155117520L);
        CHECK.due("bribed, m 60", x.bribed(6, 15, allTold, 60), 816);
        CHECK.due("bribed, m 56", x.bribed(6, 15, allTold, 56), 816);
        CHECK.due("bribed, m 55", x.bribed(6, 15, allTold, 55), 816 + 12 * 3060);
        CHECK.due("bribed, m 61", x.bribed(6, 15, allTold, 61), 0);
        CHECK.due("bribed, bit 59", x.bribed(6, 15, 1L << 59, 1), 77558760L);
        CHECK.due("bribed, bit 60", x.bribed(6, 15, 1L << 60, 0), -2);
        CHECK.due("bribed, all 64 bits", x.bribed(6, 15, -1, 0), -2);
        CHECK.due("draw beyond", x.draw(6, 15, 155117520L), -2);
        CHECK.due("draw the last", x.draw(6, 15, 155117519L), 75);
        CHECK.due("chosen(0)", x.chosen(0), 75);
        CHECK.due("chosen(74)", x.chosen(74), 149);
        CHECK.due("count(2)", x.count(2), 150);
    }
}
