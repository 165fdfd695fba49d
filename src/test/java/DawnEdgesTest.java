/** Promises 12 to 19 and the terms of DAWN, DRAW and SEATS: each sentence that names an edge has a test of its own. */
public final class DawnEdgesTest {
    private static final Check CHECK = new Check("DawnEdgesTest");
    private static final int MIN = Integer.MIN_VALUE;
    private static final int MAX = Integer.MAX_VALUE;
    private static final int TRIBE = 5;
    // C(30, 15), the most ways that 150 citizens can make.
    private static final long MOST_WAYS = 155117520L;

    public static void main(String[] args) {
        CHECK.runEach(DawnEdgesTest.class);
        CHECK.end();
    }

    /** So many rows of the tribe came: row r is citizens 5 r .. 5 r + 4. */
    private static LotMachine withRows(int rows) {
        LotMachine x = new LotMachine();
        Check.rowsCome(x, TRIBE, rows);
        return x;
    }

    private static void chosenRows(String when, LotMachine x, int... rows) {
        for (int i = 0; i < rows.length * 5; i++) {
            CHECK.due(when + ": chosen(" + i + ")", x.chosen(i), rows[i / 5] * 5 + i % 5);
        }
        CHECK.due(when + ": nobody behind them", x.chosen(rows.length * 5), -1);
        CHECK.due(when + ": count(3)", x.count(3), rows.length * 5);
    }

    // ---- promise 12: now

    static void nowNotBehindIt() {
        CHECK.sentence("RANGE: not behind it, above 20000.");
        for (int day : new int[] {BusyDay.DAY, BusyDay.DAY - 1, 0, -1, MIN}) {
            BusyDay.refuses(CHECK, "now(" + day + ")", x -> x.now(day), -2);
        }
        CHECK.due("now(0) on day 0", new LotMachine().now(0), -2);
    }

    static void nowAboveTheLast() {
        CHECK.sentence("RANGE: not behind it, above 20000.");
        for (int day : new int[] {20001, 20002, MAX}) {
            BusyDay.refuses(CHECK, "now(" + day + ")", x -> x.now(day), -2);
        }
    }

    static void nowAtMost() {
        CHECK.sentence("The CLOCK's day is 0 at first, at most 20000.");
        LotMachine x = new LotMachine();
        CHECK.due("at first", x.count(1), 0);
        CHECK.due("now(19999)", x.now(19999), 19999);
        CHECK.due("now(20000)", x.now(20000), 20000);
        CHECK.due("now(20000) again", x.now(20000), -2);
        CHECK.due("now(20001)", x.now(20001), -2);
        CHECK.due("count(1)", x.count(1), 20000);
    }

    static void nowTheNextDay() {
        CHECK.sentence("The CLOCK goes on to a later day: it");
        LotMachine x = new LotMachine();
        CHECK.due("now(1)", x.now(1), 1);
        CHECK.due("now(2)", x.now(2), 2);
        CHECK.due("now(1) behind it", x.now(1), -2);
        CHECK.due("count(1)", x.count(1), 2);
    }

    static void nowNobodyHasCome() {
        CHECK.sentence("(nobody has come, COURTS are shut, SUITS that are open are gone)");
        LotMachine x = BusyDay.begin();
        x.now(4);
        CHECK.due("came", x.count(2), 0);
        CHECK.due("chosen", x.count(3), 0);
        CHECK.due("chosen(0)", x.chosen(0), -1);
        CHECK.due("rows(0)", x.rows(0), 0);
        for (int c = 0; c < BusyDay.CITIZENS; c++) {
            CHECK.due("place of " + c, x.about(c, 6), -1);
            CHECK.due("chosen, " + c, x.about(c, 7), 0);
        }
        CHECK.due("chances(0, 0)", x.chances(0, 0), -4);
        CHECK.due("come(7) is the first of its column", x.come(7), 1);
        CHECK.due("come(2) is the second of its column", x.come(2), 2);
        CHECK.due("come(13)", x.come(13), 1);
    }

    static void nowCourtsAreShut() {
        CHECK.sentence("(nobody has come, COURTS are shut, SUITS that are open are gone)");
        LotMachine x = BusyDay.begin();
        x.now(4);
        CHECK.due("lots", x.count(4), 0);
        for (int court = 0; court < 5; court++) {
            CHECK.due("size of " + court, x.court(court, 0), 0);
            CHECK.due("how many sit in " + court, x.court(court, 1), 0);
            CHECK.due("seat(" + court + ", 0)", x.seat(court, 0), -1);
            CHECK.due("lot(" + court + ")", x.lot(court), -4);
            CHECK.due("open(" + court + ", 5)", x.open(court, 5), 5);
        }
        for (int c = 0; c < BusyDay.CITIZENS; c++) {
            CHECK.due("court of " + c, x.about(c, 8), -1);
        }
    }

    static void nowSuitsAreGone() {
        CHECK.sentence("(nobody has come, COURTS are shut, SUITS that are open are gone)");
        LotMachine x = BusyDay.begin();
        x.now(4);
        for (int court = 0; court < 5; court++) {
            CHECK.due("close(" + court + ")", x.close(court), -4);
            CHECK.due("witness(" + court + ")", x.witness(court), -4);
            CHECK.due("speak(" + court + ", 0, 1)", x.speak(court, 0, 1), -4);
            for (int what = 2; what <= 14; what++) {
                CHECK.due("court(" + court + ", " + what + ")", x.court(court, what), what == 2 ? 0 : -1);
            }
        }
        CHECK.due("nobody owes by those that are gone", x.about(BusyDay.ACCUSED, 4), 0);
        CHECK.due("closed in all", x.count(7), 1);
        CHECK.due("pay in all", x.count(8), 4);
    }

    static void nowBehindAFullDawn() {
        CHECK.sentence("(nobody has come, COURTS are shut, SUITS that are open are gone)");
        LotMachine x = withRows(30);
        CHECK.due("draw", x.draw(TRIBE, 30, 0), 150);
        CHECK.due("now(1)", x.now(1), 1);
        CHECK.due("came", x.count(2), 0);
        CHECK.due("chosen", x.count(3), 0);
        CHECK.due("place of 0", x.about(0, 6), -1);
        CHECK.due("place of 149", x.about(149, 6), -1);
        CHECK.due("149 chosen", x.about(149, 7), 0);
        CHECK.due("come(149)", x.come(149), 1);
    }

    static void nowLeavesTheRestAsItIs() {
        CHECK.sentence("The CLOCK goes on to a later day: it (nobody has come, COURTS are shut, SUITS that are open "
            + "are gone)");
        LotMachine x = BusyDay.begin();
        x.now(20000);
        CHECK.due("citizens", x.count(0), BusyDay.CITIZENS);
        CHECK.due("texts", x.count(5), 1);
        CHECK.due("bytes", x.count(6), 3);
        CHECK.due("owed", x.about(BusyDay.INDEBTED, 4), 7);
        CHECK.due("sworn", x.about(0, 3), 1);
        CHECK.due("the text in force", x.law(20000, 50), 0);
    }

    // ---- promise 13: come

    static void comeNoSuch() {
        CHECK.sentence("RANGE: no such");
        CHECK.due("come(0) of nobody", new LotMachine().come(0), -2);
        for (int c : new int[] {-1, BusyDay.CITIZENS, 150, MIN, MAX}) {
            BusyDay.refuses(CHECK, "come(" + c + ")", x -> x.come(c), -2);
        }
    }

    static void comeItMayNot() {
        CHECK.sentence("STATE: it MAY not, it is there, or its TRIBE has drawn.");
        BusyDay.refuses(CHECK, "come of one not sworn", x -> x.come(BusyDay.ACCUSED), -4);
        BusyDay.refuses(CHECK, "come of one that owes", x -> x.come(BusyDay.INDEBTED), -4);
        LotMachine x = new LotMachine();
        x.citizen(0, 0, -10949);
        x.swear(0);
        CHECK.due("come of one too young", x.come(0), -4);
        CHECK.due("came", x.count(2), 0);
        CHECK.due("its place", x.about(0, 6), -1);
    }

    static void comeItIsThere() {
        CHECK.sentence("STATE: it MAY not, it is there, or its TRIBE has drawn.");
        BusyDay.refuses(CHECK, "come of one that is there", x -> x.come(13), -4);
        LotMachine x = withRows(1);
        CHECK.due("come(0) again", x.come(0), -4);
        CHECK.due("came", x.count(2), 5);
        x.now(1);
        CHECK.due("come(0) on another day", x.come(0), 1);
    }

    static void comeItsTribeHasDrawn() {
        CHECK.sentence("A TRIBE draws once a day, and nobody of it comes any more.");
        BusyDay.refuses(CHECK, "come of one too late", x -> x.come(BusyDay.LATE), -4);
        LotMachine x = BusyDay.begin();
        CHECK.due("one of another tribe", x.come(BusyDay.ACCUSER), 1);
        x.now(4);
        CHECK.due("the one too late, on another day", x.come(BusyDay.LATE), 1);
    }

    static void comeTheLastOfAFullRoll() {
        CHECK.sentence("A CITIZEN COMES: how many of its column");
        LotMachine x = new LotMachine();
        for (int c = 0; c < 150; c++) {
            Check.sworn(x, 3, 4);
            CHECK.due("come(" + c + ")", x.come(c), c + 1);
        }
        CHECK.due("came", x.count(2), 150);
        CHECK.due("place of 149", x.about(149, 6), 149);
        CHECK.due("rows(3)", x.rows(3), 0);
        CHECK.due("draws(3, 1)", x.draws(3, 1), -2);
    }

    static void comeByTribesAndLetters() {
        CHECK.sentence("by TRIBE: five columns by LETTERS, in each the tickets one behind the other as they came.");
        LotMachine x = new LotMachine();
        int first = Check.sworn(x, 0, 4);
        int second = Check.sworn(x, 1, 4);
        int third = Check.sworn(x, 0, 4);
        int fourth = Check.sworn(x, 0, 3);
        CHECK.due("the third first", x.come(third), 1);
        CHECK.due("another tribe", x.come(second), 1);
        CHECK.due("another letter", x.come(fourth), 1);
        CHECK.due("the first behind the third", x.come(first), 2);
        CHECK.due("place of the third", x.about(third, 6), 0);
        CHECK.due("place of the first", x.about(first, 6), 1);
    }

    // ---- promise 14: rows

    static void rowsNoSuchTribe() {
        CHECK.sentence("How many ROWS a TRIBE has; RANGE.");
        LotMachine x = withRows(1);
        for (int tribe : new int[] {-1, 10, MIN, MAX}) {
            CHECK.due("rows(" + tribe + ")", x.rows(tribe), -2);
        }
        for (int tribe = 0; tribe <= 9; tribe++) {
            CHECK.due("rows(" + tribe + ")", x.rows(tribe), tribe == TRIBE ? 1 : 0);
        }
    }

    static void rowsOfTheShortestColumn() {
        CHECK.sentence("ROWS of a TRIBE: as many as its shortest column has");
        for (int shortest = 0; shortest < 5; shortest++) {
            LotMachine x = new LotMachine();
            for (int letter = 0; letter < 5; letter++) {
                CHECK.due("without rows so far", x.rows(TRIBE), 0);
                int tickets = letter == shortest ? 1 : 2;
                for (int i = 0; i < tickets; i++) {
                    x.come(Check.sworn(x, TRIBE, letter));
                }
            }
            CHECK.due("column " + shortest + " is the shortest", x.rows(TRIBE), 1);
            x.come(Check.sworn(x, TRIBE, shortest));
            CHECK.due("none is the shortest", x.rows(TRIBE), 2);
        }
    }

    static void rowsWithAnEmptyColumn() {
        CHECK.sentence("ROWS of a TRIBE: as many as its shortest column has");
        for (int empty = 0; empty < 5; empty++) {
            LotMachine x = new LotMachine();
            for (int letter = 0; letter < 5; letter++) {
                if (letter != empty) {
                    x.come(Check.sworn(x, TRIBE, letter));
                }
            }
            CHECK.due("column " + empty + " is empty", x.rows(TRIBE), 0);
        }
    }

    static void rowsAtMost() {
        CHECK.sentence("How many ROWS a TRIBE has; RANGE.");
        CHECK.due("150 citizens", withRows(30).rows(TRIBE), 30);
    }

    static void rowsOfOneTribeAlone() {
        CHECK.sentence("ROWS of a TRIBE: as many as its shortest column has");
        LotMachine x = new LotMachine();
        for (int letter = 0; letter < 5; letter++) {
            x.come(Check.sworn(x, letter < 3 ? 0 : 1, letter));
        }
        CHECK.due("rows(0)", x.rows(0), 0);
        CHECK.due("rows(1)", x.rows(1), 0);
    }

    // ---- promise 15: draws

    static void drawsNoSuchTribe() {
        CHECK.sentence("In how many ways w ROWS of a TRIBE can be chosen; RANGE: no such TRIBE, w");
        LotMachine x = withRows(1);
        for (int tribe : new int[] {-1, 10, MIN, MAX}) {
            CHECK.due("draws(" + tribe + ", 0)", x.draws(tribe, 0), -2);
        }
        CHECK.due("draws(0, 0)", x.draws(0, 0), 1);
        CHECK.due("draws(9, 0)", x.draws(9, 0), 1);
    }

    static void drawsNotAboveHowManyThereAre() {
        CHECK.sentence("A DRAW of a TRIBE puts w white cubes to its ROWS (w not above how many there are)");
        LotMachine x = withRows(3);
        CHECK.due("draws of 3", x.draws(TRIBE, 3), 1);
        CHECK.due("draws of 4", x.draws(TRIBE, 4), -2);
        CHECK.due("draws of MAX", x.draws(TRIBE, MAX), -2);
        CHECK.due("draws of 1 without rows", x.draws(0, 1), -2);
    }

    static void drawsBelowZero() {
        CHECK.sentence("In how many ways w ROWS of a TRIBE can be chosen; RANGE: no such TRIBE, w");
        LotMachine x = withRows(3);
        CHECK.due("draws of -1", x.draws(TRIBE, -1), -2);
        CHECK.due("draws of MIN", x.draws(TRIBE, MIN), -2);
        CHECK.due("draws of -1 without rows", x.draws(0, -1), -2);
    }

    static void drawsOfNoRows() {
        CHECK.sentence("In how many ways w ROWS of a TRIBE can be chosen");
        CHECK.due("0 of 3", withRows(3).draws(TRIBE, 0), 1);
        CHECK.due("0 of 0", withRows(0).draws(TRIBE, 0), 1);
        CHECK.due("1 of 3", withRows(3).draws(TRIBE, 1), 3);
        CHECK.due("2 of 3", withRows(3).draws(TRIBE, 2), 3);
    }

    static void drawsExactOfTheMostRows() {
        CHECK.sentence("COUNTS OF DRAWS are exact, as long as they are below 2^62: FULL beyond.");
        LotMachine x = withRows(30);
        long[] line = {1};
        for (int row = 1; row <= 30; row++) {
            long[] next = new long[row + 1];
            for (int w = 0; w <= row; w++) {
                next[w] = (w > 0 ? line[w - 1] : 0) + (w < row ? line[w] : 0);
            }
            line = next;
        }
        for (int w = 0; w <= 30; w++) {
            CHECK.due("draws of " + w, x.draws(TRIBE, w), line[w]);
        }
        CHECK.due("draws of 31", x.draws(TRIBE, 31), -2);
        CHECK.due("the most", line[15], MOST_WAYS);
    }

    static void drawsStayWhenItHasDrawn() {
        CHECK.sentence("In how many ways w ROWS of a TRIBE can be chosen");
        LotMachine x = withRows(3);
        x.draw(TRIBE, 1, 0);
        CHECK.due("rows", x.rows(TRIBE), 3);
        CHECK.due("draws of 2", x.draws(TRIBE, 2), 3);
    }

    // ---- promise 16: draw

    static void drawNoSuchTribe() {
        CHECK.sentence("RANGE: no such TRIBE, w, number; STATE: it has drawn; FULL (draws()).");
        for (int tribe : new int[] {-1, 10, MIN, MAX}) {
            BusyDay.refuses(CHECK, "draw(" + tribe + ", 0, 0)", x -> x.draw(tribe, 0, 0), -2);
        }
        LotMachine x = new LotMachine();
        CHECK.due("draw(0, 0, 0)", x.draw(0, 0, 0), 0);
        CHECK.due("draw(9, 0, 0)", x.draw(9, 0, 0), 0);
    }

    static void drawNoSuchW() {
        CHECK.sentence("RANGE: no such TRIBE, w, number; STATE: it has drawn; FULL (draws()).");
        for (int w : new int[] {-1, 1, MIN, MAX}) {
            BusyDay.refuses(CHECK, "draw(3, " + w + ", 0)", x -> x.draw(3, w, 0), -2);
        }
        LotMachine x = withRows(2);
        CHECK.due("3 of 2", x.draw(TRIBE, 3, 0), -2);
        CHECK.due("-1 of 2", x.draw(TRIBE, -1, 0), -2);
        CHECK.due("chosen", x.count(3), 0);
        CHECK.due("2 of 2", x.draw(TRIBE, 2, 0), 10);
    }

    static void drawNoSuchNumber() {
        CHECK.sentence("RANGE: no such TRIBE, w, number; STATE: it has drawn; FULL (draws()).");
        long[] numbers = {-1, 1, 1L << 32, 1L << 62, Long.MIN_VALUE, Long.MAX_VALUE};
        for (long number : numbers) {
            BusyDay.refuses(CHECK, "draw(3, 0, " + number + ")", x -> x.draw(3, 0, number), -2);
        }
        LotMachine x = withRows(3);
        long[] beyond = {3, -1, 4, (1L << 32) + 1, Long.MIN_VALUE, Long.MAX_VALUE};
        for (long number : beyond) {
            CHECK.due("2 of 3, number " + number, x.draw(TRIBE, 2, number), -2);
        }
        CHECK.due("chosen", x.count(3), 0);
        CHECK.due("the tribe still comes", x.come(Check.sworn(x, TRIBE, 0)), 4);
        CHECK.due("2 of 3, number 2", x.draw(TRIBE, 2, 2), 10);
    }

    static void drawNumbersOfTheMostWays() {
        CHECK.sentence("all ways to choose w ROWS are numbered from 0 on");
        LotMachine x = withRows(30);
        CHECK.due("one beyond", x.draw(TRIBE, 15, MOST_WAYS), -2);
        CHECK.due("the last", x.draw(TRIBE, 15, MOST_WAYS - 1), 75);
        CHECK.due("the last: chosen(0)", x.chosen(0), 75);
        CHECK.due("the last: chosen(74)", x.chosen(74), 149);
        LotMachine y = withRows(30);
        CHECK.due("the first", y.draw(TRIBE, 15, 0), 75);
        CHECK.due("the first: chosen(0)", y.chosen(0), 0);
        CHECK.due("the first: chosen(74)", y.chosen(74), 74);
    }

    static void drawTheExampleOfThree() {
        CHECK.sentence("(the least ROW first: 0 1, 0 2, 1 2 is 0, 1, 2 of three)");
        int[][] ways = {{0, 1}, {0, 2}, {1, 2}};
        for (int number = 0; number < ways.length; number++) {
            LotMachine x = withRows(3);
            CHECK.due("draw " + number, x.draw(TRIBE, 2, number), 10);
            chosenRows("number " + number, x, ways[number]);
        }
    }

    static void drawInTheOrderOfTheirRows() {
        CHECK.sentence("in the order of their rows of numbers");
        int[][] two = {{0, 1}, {0, 2}, {0, 3}, {1, 2}, {1, 3}, {2, 3}};
        for (int number = 0; number < two.length; number++) {
            LotMachine x = withRows(4);
            x.draw(TRIBE, 2, number);
            chosenRows("2 of 4, number " + number, x, two[number]);
        }
        int[][] three = {{0, 1, 2}, {0, 1, 3}, {0, 1, 4}, {0, 2, 3}, {0, 2, 4}, {0, 3, 4}, {1, 2, 3}, {1, 2, 4},
            {1, 3, 4}, {2, 3, 4}};
        for (int number = 0; number < three.length; number++) {
            LotMachine x = withRows(5);
            x.draw(TRIBE, 3, number);
            chosenRows("3 of 5, number " + number, x, three[number]);
        }
    }

    static void drawAllRowsAndOne() {
        CHECK.sentence("A TRIBE draws, by the number of the way: how many are CHOSEN");
        LotMachine x = withRows(3);
        CHECK.due("3 of 3", x.draw(TRIBE, 3, 0), 15);
        chosenRows("3 of 3", x, 0, 1, 2);
        LotMachine y = withRows(3);
        CHECK.due("1 of 3", y.draw(TRIBE, 1, 2), 5);
        chosenRows("1 of 3", y, 2);
        LotMachine z = withRows(1);
        CHECK.due("1 of 1", z.draw(TRIBE, 1, 0), 5);
        chosenRows("1 of 1", z, 0);
    }

    static void drawOfNoRows() {
        CHECK.sentence("A TRIBE draws, by the number of the way: how many are CHOSEN");
        LotMachine x = withRows(2);
        CHECK.due("0 of 2, number 1", x.draw(TRIBE, 0, 1), -2);
        CHECK.due("0 of 2", x.draw(TRIBE, 0, 0), 0);
        chosenRows("0 of 2", x);
        CHECK.due("it has drawn", x.draw(TRIBE, 1, 0), -4);
    }

    static void drawItHasDrawn() {
        CHECK.sentence("A TRIBE draws once a day, and nobody of it comes any more.");
        BusyDay.refuses(CHECK, "draw(0, 1, 0)", x -> x.draw(0, 1, 0), -4);
        BusyDay.refuses(CHECK, "draw(0, 0, 0)", x -> x.draw(0, 0, 0), -4);
        LotMachine x = withRows(1);
        x.draw(TRIBE, 1, 0);
        CHECK.due("again", x.draw(TRIBE, 1, 0), -4);
        x.now(1);
        for (int c = 0; c < 5; c++) {
            CHECK.due("come(" + c + ") on another day", x.come(c), 1);
        }
        CHECK.due("on another day", x.draw(TRIBE, 1, 0), 5);
        CHECK.due("again", x.draw(TRIBE, 1, 0), -4);
    }

    static void drawRangeAheadOfState() {
        CHECK.sentence("RANGE: no such TRIBE, w, number; STATE: it has drawn; FULL (draws()).");
        BusyDay.refuses(CHECK, "no such w", x -> x.draw(0, 3, 0), -2);
        BusyDay.refuses(CHECK, "no such number", x -> x.draw(0, 2, 1), -2);
    }

    static void drawBeyondIsLeftOut() {
        CHECK.sentence("What is beyond is left out.");
        LotMachine x = withRows(2);
        int beyond = Check.sworn(x, TRIBE, 0);
        x.come(beyond);
        CHECK.due("rows", x.rows(TRIBE), 2);
        CHECK.due("draw", x.draw(TRIBE, 2, 0), 10);
        CHECK.due("its place", x.about(beyond, 6), 2);
        CHECK.due("chosen", x.about(beyond, 7), 0);
        CHECK.due("chances", x.chances(beyond, 2), 0);
        CHECK.due("came", x.count(2), 11);
        chosenRows("2 of 2", x, 0, 1);
    }

    static void drawTheTicketsOfARow() {
        CHECK.sentence("row r has the r-th ticket of each column (from 0 on).");
        LotMachine x = new LotMachine();
        for (int i = 0; i < 10; i++) {
            Check.sworn(x, TRIBE, i % 5);
        }
        for (int c : new int[] {9, 5, 0, 1, 6, 7, 2, 3, 4, 8}) {
            x.come(c);
        }
        x.draw(TRIBE, 2, 0);
        int[] want = {5, 1, 7, 3, 9, 0, 6, 2, 8, 4};
        for (int i = 0; i < want.length; i++) {
            CHECK.due("chosen(" + i + ")", x.chosen(i), want[i]);
        }
    }

    // ---- promise 17: chances

    static void chancesNoSuchCitizen() {
        CHECK.sentence("RANGE: no such CITIZEN, w; STATE: it hasn't come; FULL.");
        LotMachine x = withRows(2);
        for (int c : new int[] {-1, 10, 150, MIN, MAX}) {
            CHECK.due("chances(" + c + ", 1)", x.chances(c, 1), -2);
        }
    }

    static void chancesNoSuchW() {
        CHECK.sentence("RANGE: no such CITIZEN, w; STATE: it hasn't come; FULL.");
        LotMachine x = withRows(2);
        for (int w : new int[] {-1, 3, MIN, MAX}) {
            CHECK.due("chances(0, " + w + ")", x.chances(0, w), -2);
        }
        CHECK.due("chances(0, 2)", x.chances(0, 2), 1);
    }

    static void chancesItHasntCome() {
        CHECK.sentence("RANGE: no such CITIZEN, w; STATE: it hasn't come; FULL.");
        LotMachine x = withRows(2);
        int absent = Check.sworn(x, TRIBE, 0);
        CHECK.due("absent", x.chances(absent, 2), -4);
        CHECK.due("absent, w 0", x.chances(absent, 0), -4);
        CHECK.due("absent, no such w", x.chances(absent, 3), -2);
        x.come(absent);
        CHECK.due("came, beyond the rows", x.chances(absent, 2), 0);
        x.now(1);
        CHECK.due("another day", x.chances(0, 0), -4);
    }

    static void chancesOfEachRow() {
        CHECK.sentence("In how many of all ways to choose w ROWS of its TRIBE a CITIZEN that came is CHOSEN");
        LotMachine x = withRows(3);
        long[] want = {0, 1, 2, 1};
        for (int c = 0; c < 15; c++) {
            for (int w = 0; w <= 3; w++) {
                CHECK.due("chances(" + c + ", " + w + ")", x.chances(c, w), want[w]);
            }
        }
    }

    static void chancesBeyondTheRows() {
        CHECK.sentence("What is beyond is left out.");
        LotMachine x = new LotMachine();
        int alone = Check.sworn(x, TRIBE, 0);
        x.come(alone);
        CHECK.due("without rows, w 0", x.chances(alone, 0), 0);
        CHECK.due("without rows, w 1", x.chances(alone, 1), -2);
    }

    static void chancesExactOfTheMostRows() {
        CHECK.sentence("COUNTS OF DRAWS are exact, as long as they are below 2^62: FULL beyond.");
        LotMachine x = withRows(30);
        CHECK.due("chances(0, 15)", x.chances(0, 15), 77558760L);
        CHECK.due("chances(149, 15)", x.chances(149, 15), 77558760L);
        CHECK.due("chances(149, 1)", x.chances(149, 1), 1);
        CHECK.due("chances(149, 30)", x.chances(149, 30), 1);
        CHECK.due("chances(149, 29)", x.chances(149, 29), 29);
    }

    // ---- promise 18: bribed

    static void bribedNoSuchTribe() {
        CHECK.sentence("RANGE: no such TRIBE, w, bits of a ROW that isn't there, m below 0; FULL.");
        LotMachine x = withRows(2);
        for (int tribe : new int[] {-1, 10, MIN, MAX}) {
            CHECK.due("tribe " + tribe, x.bribed(tribe, 0, 0, 0), -2);
        }
    }

    static void bribedNoSuchW() {
        CHECK.sentence("RANGE: no such TRIBE, w, bits of a ROW that isn't there, m below 0; FULL.");
        LotMachine x = withRows(2);
        for (int w : new int[] {-1, 3, MIN, MAX}) {
            CHECK.due("w " + w, x.bribed(TRIBE, w, 0, 0), -2);
        }
        CHECK.due("w 1 without rows", x.bribed(0, 1, 0, 0), -2);
    }

    static void bribedBitsOfARowThatIsntThere() {
        CHECK.sentence("RANGE: no such TRIBE, w, bits of a ROW that isn't there, m below 0; FULL.");
        for (int rows : new int[] {0, 1, 2, 6, 11, 12}) {
            LotMachine x = withRows(rows);
            if (rows > 0) {
                CHECK.due("the last bit of " + rows, x.bribed(TRIBE, 1, 1L << 5 * rows - 1, 1), 1);
            }
            for (int bit = 5 * rows; bit < 64; bit++) {
                CHECK.due("bit " + bit + " of " + rows + " rows", x.bribed(TRIBE, 0, 1L << bit, 0), -2);
            }
        }
    }

    static void bribedTwelveRowsAlone() {
        CHECK.sentence("the one of LETTER l in ROW r; 12 ROWS alone");
        LotMachine x = withRows(13);
        CHECK.due("bit 59", x.bribed(TRIBE, 1, 1L << 59, 1), 1);
        for (int bit = 60; bit < 64; bit++) {
            CHECK.due("bit " + bit, x.bribed(TRIBE, 1, 1L << bit, 0), -2);
        }
        CHECK.due("all twelve rows", x.bribed(TRIBE, 1, (1L << 60) - 1, 1), 12);
        CHECK.due("all twelve rows, m 0", x.bribed(TRIBE, 1, (1L << 60) - 1, 0), 13);
        CHECK.due("all twelve rows, m 60", x.bribed(TRIBE, 12, (1L << 60) - 1, 60), 1);
        CHECK.due("all twelve rows, m 55", x.bribed(TRIBE, 12, (1L << 60) - 1, 55), 13);
    }

    static void bribedMBelowZero() {
        CHECK.sentence("RANGE: no such TRIBE, w, bits of a ROW that isn't there, m below 0; FULL.");
        LotMachine x = withRows(2);
        CHECK.due("m -1", x.bribed(TRIBE, 1, 1, -1), -2);
        CHECK.due("m MIN", x.bribed(TRIBE, 1, 1, MIN), -2);
        CHECK.due("m 0 is in all ways", x.bribed(TRIBE, 1, 1, 0), 2);
        CHECK.due("m 0 without any bit", x.bribed(TRIBE, 1, 0, 0), 2);
    }

    static void bribedMoreThanThereAre() {
        CHECK.sentence("at least m of those that are BRIBED");
        LotMachine x = withRows(2);
        CHECK.due("m 10 of 10", x.bribed(TRIBE, 2, 1023, 10), 1);
        CHECK.due("m 11 of 10", x.bribed(TRIBE, 2, 1023, 11), 0);
        CHECK.due("m 60 of 10", x.bribed(TRIBE, 2, 1023, 60), 0);
        CHECK.due("m 61 of 10", x.bribed(TRIBE, 2, 1023, 61), 0);
        CHECK.due("m MAX of 10", x.bribed(TRIBE, 2, 1023, MAX), 0);
        CHECK.due("m 1 of 0", x.bribed(TRIBE, 2, 0, 1), 0);
    }

    static void bribedAtLeast() {
        CHECK.sentence("at least m of those that are BRIBED");
        LotMachine x = withRows(3);
        // Rows with one, two and three bribed ones: two rows have three, four or five.
        long bits = 1 | 3 << 5 | 7 << 10;
        long[] want = {3, 3, 3, 3, 2, 1, 0};
        for (int m = 0; m < want.length; m++) {
            CHECK.due("m " + m, x.bribed(TRIBE, 2, bits, m), want[m]);
        }
    }

    static void bribedEachBit() {
        CHECK.sentence("bit l of the r-th 5 bits: the one of LETTER l in ROW r");
        LotMachine x = withRows(3);
        for (int bit = 0; bit < 15; bit++) {
            CHECK.due("bit " + bit, x.bribed(TRIBE, 1, 1L << bit, 1), 1);
            CHECK.due("bit " + bit + " beside row 1", x.bribed(TRIBE, 1, 1L << bit | 1 << 5, 2),
                bit > 5 && bit < 10 ? 1 : 0);
        }
    }

    static void bribedOfNoRows() {
        CHECK.sentence("In how many of all ways to choose w ROWS of a TRIBE at least m of those that are BRIBED");
        LotMachine x = withRows(2);
        CHECK.due("w 0, m 0", x.bribed(TRIBE, 0, 1023, 0), 1);
        CHECK.due("w 0, m 1", x.bribed(TRIBE, 0, 1023, 1), 0);
        CHECK.due("no rows, m 0", x.bribed(0, 0, 0, 0), 1);
        CHECK.due("no rows, m 1", x.bribed(0, 0, 0, 1), 0);
    }

    static void bribedExactOfTheMostRows() {
        CHECK.sentence("COUNTS OF DRAWS are exact, as long as they are below 2^62: FULL beyond.");
        LotMachine x = withRows(30);
        long all = (1L << 60) - 1;
        CHECK.due("m 0", x.bribed(TRIBE, 15, all, 0), MOST_WAYS);
        CHECK.due("m 1", x.bribed(TRIBE, 15, all, 1), MOST_WAYS - 816);
        CHECK.due("m 5", x.bribed(TRIBE, 15, all, 5), MOST_WAYS - 816);
        CHECK.due("m 6", x.bribed(TRIBE, 15, all, 6), MOST_WAYS - 816 - 12 * 3060);
        CHECK.due("m 60", x.bribed(TRIBE, 15, all, 60), 816);
        CHECK.due("one in each of twelve", x.bribed(TRIBE, 15, 0x084210842108421L, 12), 816);
    }

    static void bribedTwiceIsTheSame() {
        CHECK.sentence("COUNTS OF DRAWS are exact, as long as they are below 2^62: FULL beyond.");
        LotMachine x = withRows(4);
        CHECK.due("at first", x.bribed(TRIBE, 2, 33, 1), 5);
        CHECK.due("others between", x.bribed(TRIBE, 4, (1L << 20) - 1, 20), 1);
        CHECK.due("again", x.bribed(TRIBE, 2, 33, 1), 5);
        x.draw(TRIBE, 1, 0);
        CHECK.due("behind a draw", x.bribed(TRIBE, 2, 33, 2), 1);
    }

    // ---- promise 19: chosen

    static void chosenNone() {
        CHECK.sentence("The i-th that is CHOSEN today; NONE.");
        LotMachine x = withRows(2);
        CHECK.due("nobody yet", x.chosen(0), -1);
        x.draw(TRIBE, 1, 1);
        CHECK.due("the first", x.chosen(0), 5);
        CHECK.due("the last", x.chosen(4), 9);
        for (int i : new int[] {-1, 5, 150, MIN, MAX}) {
            CHECK.due("chosen(" + i + ")", x.chosen(i), -1);
        }
    }

    static void chosenAll() {
        CHECK.sentence("The i-th that is CHOSEN today; NONE.");
        LotMachine x = withRows(30);
        CHECK.due("draw", x.draw(TRIBE, 30, 0), 150);
        CHECK.due("chosen(149)", x.chosen(149), 149);
        CHECK.due("chosen(150)", x.chosen(150), -1);
        CHECK.due("count(3)", x.count(3), 150);
    }

    static void chosenTribeByTribe() {
        CHECK.sentence("SEATS: those CHOSEN, TRIBE by TRIBE as they drew, row by row, LETTER by LETTER.");
        LotMachine x = new LotMachine();
        Check.rowsCome(x, 0, 1);
        Check.rowsCome(x, 9, 2);
        Check.rowsCome(x, 4, 1);
        CHECK.due("tribe 9", x.draw(9, 2, 0), 10);
        CHECK.due("tribe 4", x.draw(4, 0, 0), 0);
        CHECK.due("tribe 0", x.draw(0, 1, 0), 5);
        chosenRows("by tribes", x, 1, 2, 0);
    }

    static void chosenLaterBehindLots() {
        CHECK.sentence("SEATS: those CHOSEN, TRIBE by TRIBE as they drew, row by row, LETTER by LETTER.");
        LotMachine x = new LotMachine();
        Check.rowsCome(x, 0, 1);
        Check.rowsCome(x, 1, 1);
        x.draw(1, 1, 0);
        x.open(0, 7);
        for (int i = 0; i < 5; i++) {
            CHECK.due("lot " + i, x.lot(0), 5 + i);
        }
        CHECK.due("nobody is left", x.lot(0), -1);
        x.draw(0, 1, 0);
        CHECK.due("the first of the next tribe", x.lot(0), 0);
    }
}
