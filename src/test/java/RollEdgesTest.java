/** Promises 7 to 11 and the terms of CITIZENS: each sentence that names an edge has a test of its own. */
public final class RollEdgesTest {
    private static final Check CHECK = new Check("RollEdgesTest");
    private static final int MIN = Integer.MIN_VALUE;
    private static final int MAX = Integer.MAX_VALUE;

    public static void main(String[] args) {
        CHECK.runEach(RollEdgesTest.class);
        CHECK.end();
    }

    private static LotMachine withFullRoll() {
        LotMachine x = new LotMachine();
        for (int i = 0; i < 150; i++) {
            CHECK.due("citizen " + i, x.citizen(i % 10, i % 5, -1), i);
        }
        return x;
    }

    /** A sworn citizen 0, born on a day, on the clock's day. */
    private static LotMachine withSworn(int born, int day) {
        LotMachine x = new LotMachine();
        x.citizen(0, 0, born);
        x.swear(0);
        if (day > 0) {
            x.now(day);
        }
        return x;
    }

    // ---- promise 7: citizen

    static void citizenNumberedFromZero() {
        CHECK.sentence("numbered from 0 as they come on the roll");
        LotMachine x = new LotMachine();
        CHECK.due("the first", x.citizen(9, 4, -7), 0);
        CHECK.due("one that is refused", x.citizen(10, 4, -7), -2);
        CHECK.due("the second has the next number", x.citizen(8, 3, -6), 1);
        CHECK.due("count(0)", x.count(0), 2);
        CHECK.due("tribe of 0", x.about(0, 0), 9);
        CHECK.due("tribe of 1", x.about(1, 0), 8);
    }

    static void citizenTribes() {
        CHECK.sentence("each of a TRIBE 0 .. 9");
        LotMachine x = new LotMachine();
        for (int tribe = 0; tribe <= 9; tribe++) {
            CHECK.due("tribe " + tribe, x.citizen(tribe, 0, -1), tribe);
            CHECK.due("about(" + tribe + ", 0)", x.about(tribe, 0), tribe);
        }
        for (int tribe : new int[] {-1, 10, MIN, MAX}) {
            BusyDay.refuses(CHECK, "tribe " + tribe, y -> y.citizen(tribe, 0, -1), -2);
        }
    }

    static void citizenLetters() {
        CHECK.sentence("a LETTER 0 .. 4");
        LotMachine x = new LotMachine();
        for (int letter = 0; letter <= 4; letter++) {
            CHECK.due("letter " + letter, x.citizen(0, letter, -1), letter);
            CHECK.due("about(" + letter + ", 1)", x.about(letter, 1), letter);
        }
        for (int letter : new int[] {-1, 5, MIN, MAX}) {
            BusyDay.refuses(CHECK, "letter " + letter, y -> y.citizen(0, letter, -1), -2);
        }
    }

    static void citizenBornBelowTheClocks() {
        CHECK.sentence("born on a day (below the CLOCK's; -40000 and later)");
        BusyDay.refuses(CHECK, "born on the clock's day", x -> x.citizen(0, 0, BusyDay.DAY), -2);
        BusyDay.refuses(CHECK, "born on the next", x -> x.citizen(0, 0, BusyDay.DAY + 1), -2);
        BusyDay.refuses(CHECK, "born MAX", x -> x.citizen(0, 0, MAX), -2);
        LotMachine x = new LotMachine();
        CHECK.due("born 0 on day 0", x.citizen(0, 0, 0), -2);
        CHECK.due("born -1 on day 0", x.citizen(0, 0, -1), 0);
        x.now(20000);
        CHECK.due("born 20000 on the last day", x.citizen(0, 0, 20000), -2);
        CHECK.due("born 19999 on the last day", x.citizen(0, 0, 19999), 1);
        CHECK.due("about(1, 2)", x.about(1, 2), 19999);
    }

    static void citizenBornOnTheEarliestDay() {
        CHECK.sentence("born on a day (below the CLOCK's; -40000 and later)");
        BusyDay.refuses(CHECK, "born -40001", x -> x.citizen(0, 0, -40001), -2);
        BusyDay.refuses(CHECK, "born MIN", x -> x.citizen(0, 0, MIN), -2);
        LotMachine x = new LotMachine();
        CHECK.due("born -40000", x.citizen(0, 0, -40000), 0);
        CHECK.due("about(0, 2)", x.about(0, 2), -40000);
        x.now(20000);
        CHECK.due("born -40001 on the last day", x.citizen(0, 0, -40001), -2);
        CHECK.due("born -40000 on the last day", x.citizen(0, 0, -40000), 1);
    }

    static void citizenFull() {
        CHECK.sentence("CITIZENS, at most 150");
        LotMachine x = withFullRoll();
        CHECK.due("the 151st", x.citizen(0, 0, -1), -3);
        CHECK.due("count(0)", x.count(0), 150);
        CHECK.due("the last of them", x.about(149, 0), 9);
        CHECK.due("there is no 150", x.about(150, 0), -1);
        x.now(1);
        CHECK.due("the 151st on another day", x.citizen(0, 0, -1), -3);
    }

    static void citizenRangeAheadOfFull() {
        CHECK.sentence("A CITIZEN comes on the roll: its number; RANGE; FULL.");
        LotMachine x = withFullRoll();
        CHECK.due("tribe 10", x.citizen(10, 0, -1), -2);
        CHECK.due("letter 5", x.citizen(0, 5, -1), -2);
        CHECK.due("born 0", x.citizen(0, 0, 0), -2);
    }

    // ---- promise 8: swear

    static void swearOnce() {
        CHECK.sentence("A CITIZEN is SWORN: 1, 0 if it was");
        LotMachine x = withFullRoll();
        for (int c : new int[] {0, 149}) {
            CHECK.due("swear(" + c + ")", x.swear(c), 1);
            CHECK.due("swear(" + c + ") again", x.swear(c), 0);
            CHECK.due("swear(" + c + ") a third time", x.swear(c), 0);
        }
        x.now(1);
        CHECK.due("swear(0) on another day", x.swear(0), 0);
        CHECK.due("only those", x.about(1, 3), 0);
    }

    static void swearNoSuch() {
        CHECK.sentence("A CITIZEN is SWORN: 1, 0 if it was; RANGE.");
        for (int c : new int[] {-1, BusyDay.CITIZENS, 150, MIN, MAX}) {
            BusyDay.refuses(CHECK, "swear(" + c + ")", x -> x.swear(c), -2);
        }
        CHECK.due("swear(150) of a full roll", withFullRoll().swear(150), -2);
    }

    static void swearAgainChangesNothing() {
        CHECK.sentence("A CITIZEN is SWORN: 1, 0 if it was; RANGE.");
        BusyDay.refuses(CHECK, "swear(0)", x -> x.swear(0), 0);
    }

    // ---- promise 9: owe

    static void oweSums() {
        CHECK.sentence("A CITIZEN owes a sum more (1 .. 1000000000)");
        for (int sum : new int[] {0, -1, 1000000001, MIN, MAX}) {
            BusyDay.refuses(CHECK, "owe(1, " + sum + ", 0)", x -> x.owe(1, sum, 0), -2);
        }
        LotMachine x = withSworn(-1, 0);
        CHECK.due("owe(0, 1, 0)", x.owe(0, 1, 0), 1);
        LotMachine y = withSworn(-1, 0);
        CHECK.due("owe(0, 1000000000, 0)", y.owe(0, 1000000000, 0), 1000000000);
    }

    static void oweDays() {
        CHECK.sentence("from a day on (0 .. the CLOCK's)");
        for (int day : new int[] {-1, BusyDay.DAY + 1, 20000, MIN, MAX}) {
            BusyDay.refuses(CHECK, "owe(1, 1, " + day + ")", x -> x.owe(1, 1, day), -2);
        }
        LotMachine x = withSworn(-1, 0);
        CHECK.due("day 1 on day 0", x.owe(0, 1, 1), -2);
        CHECK.due("day 0 on day 0", x.owe(0, 1, 0), 1);
        x.now(20000);
        CHECK.due("day 20001 on the last day", x.owe(0, 1, 20001), -2);
        CHECK.due("day 20000 on the last day", x.owe(0, 1, 20000), 2);
        CHECK.due("day 0 on the last day", x.owe(0, 1, 0), 3);
    }

    static void oweNoSuchCitizen() {
        CHECK.sentence("what it owes in all; RANGE");
        for (int c : new int[] {-1, BusyDay.CITIZENS, 150, MIN, MAX}) {
            BusyDay.refuses(CHECK, "owe(" + c + ", 1, 0)", x -> x.owe(c, 1, 0), -2);
        }
    }

    static void oweInAll() {
        CHECK.sentence("what it owes in all; RANGE");
        LotMachine x = withSworn(-1, 5);
        CHECK.due("5 from day 0 on", x.owe(0, 5, 0), 5);
        CHECK.due("6 more from day 5 on", x.owe(0, 6, 5), 11);
        CHECK.due("about(0, 4)", x.about(0, 4), 11);
    }

    static void oweTooMuchInAll() {
        CHECK.sentence("RANGE, also if that were above 2000000000.");
        LotMachine x = withSworn(-1, 0);
        x.owe(0, 1000000000, 0);
        CHECK.due("to 2000000000", x.owe(0, 1000000000, 0), 2000000000);
        CHECK.due("one more", x.owe(0, 1, 0), -2);
        CHECK.due("so much that an int wraps around", x.owe(0, 1000000000, 0), -2);
        CHECK.due("about(0, 4)", x.about(0, 4), 2000000000);
        x.pay(0, 1);
        CHECK.due("two more", x.owe(0, 2, 0), -2);
        CHECK.due("one more behind a payment", x.owe(0, 1, 0), 2000000000);
    }

    static void oweTooMuchStrikesNobodyOut() {
        CHECK.sentence("RANGE, also if that were above 2000000000.");
        LotMachine x = Courtroom.withCourt(3);
        x.owe(4, 1000000000, 0);
        x.owe(4, 1000000000, 0);
        x.suit(0, 0, 0, 1, 0);
        CHECK.due("one more", x.owe(4, 1, 0), -2);
        CHECK.due("struck out", x.court(0, 11), 0);
        CHECK.due("its disc", x.disc(0, 4, 0), 2);
    }

    static void oweStrikesOut() {
        CHECK.sentence("One that sits in a SUIT that is open is STRUCK OUT, if the day is not behind the CLOCK's.");
        for (int day = 0; day <= BusyDay.DAY; day++) {
            LotMachine x = BusyDay.begin();
            CHECK.due("owe(1, 1, " + day + ")", x.owe(1, 1, day), 1);
            CHECK.due("struck out", x.court(0, 11), 1);
            CHECK.due("of another court", x.court(1, 11), 0);
            CHECK.due("its disc", x.disc(0, 1, 1), -4);
            CHECK.due("the others' discs", x.disc(0, 2, 1), 1);
        }
    }

    static void oweStrikesOutOnce() {
        CHECK.sentence("One that sits in a SUIT that is open is STRUCK OUT, if the day is not behind the CLOCK's.");
        LotMachine x = BusyDay.begin();
        x.owe(1, 1, 0);
        CHECK.due("once more", x.owe(1, 1, 0), 2);
        CHECK.due("struck out", x.court(0, 11), 1);
        x.owe(0, 1, 0);
        x.owe(2, 1, 0);
        CHECK.due("all three", x.court(0, 11), 3);
    }

    static void oweOfOneThatDoesntSit() {
        CHECK.sentence("One that sits in a SUIT that is open is STRUCK OUT, if the day is not behind the CLOCK's.");
        LotMachine x = BusyDay.begin();
        x.owe(BusyDay.ACCUSER, 1, 0);
        x.owe(BusyDay.ACCUSED, 1, 0);
        x.owe(9, 1, 0);
        CHECK.due("court 0", x.court(0, 11), 0);
        CHECK.due("court 1", x.court(1, 11), 0);
        CHECK.due("court 2", x.court(2, 11), 0);
    }

    static void oweOfOneWhoseSuitIsClosed() {
        CHECK.sentence("One that sits in a SUIT that is open is STRUCK OUT, if the day is not behind the CLOCK's.");
        LotMachine x = BusyDay.begin();
        x.owe(4, 1, 0);
        CHECK.due("struck out", x.court(2, 11), 0);
        CHECK.due("discs", x.court(2, 9), 1);
        CHECK.due("verdict", x.court(2, 12), 1);
    }

    static void oweOfOneWithoutASuit() {
        CHECK.sentence("One that sits in a SUIT that is open is STRUCK OUT, if the day is not behind the CLOCK's.");
        LotMachine x = Courtroom.withCourt(1);
        CHECK.due("owe ahead of any suit", x.owe(4, 1, 0), 1);
        CHECK.due("struck out", x.court(0, 11), -1);
        x.suit(0, 0, 0, 1, 0);
        CHECK.due("struck out of a suit that began later", x.court(0, 11), 0);
        CHECK.due("its disc", x.disc(0, 4, 1), 0);
    }

    // ---- promise 10: pay

    static void paySums() {
        CHECK.sentence("A CITIZEN pays so much (1 .. what it owes)");
        for (int sum : new int[] {0, -1, 8, MIN, MAX}) {
            BusyDay.refuses(CHECK, "pay " + sum + " of 7", x -> x.pay(BusyDay.INDEBTED, sum), -2);
        }
        LotMachine x = BusyDay.begin();
        CHECK.due("pay 1 of 7", x.pay(BusyDay.INDEBTED, 1), 6);
        CHECK.due("pay 7 of 6", x.pay(BusyDay.INDEBTED, 7), -2);
        CHECK.due("pay 6 of 6", x.pay(BusyDay.INDEBTED, 6), 0);
    }

    static void payTheMost() {
        CHECK.sentence("A CITIZEN pays so much (1 .. what it owes)");
        LotMachine x = withSworn(-1, 0);
        x.owe(0, 1000000000, 0);
        x.owe(0, 1000000000, 0);
        CHECK.due("pay 2000000001", x.pay(0, 2000000001), -2);
        CHECK.due("pay 2000000000", x.pay(0, 2000000000), 0);
    }

    static void payWithoutAny() {
        CHECK.sentence("A CITIZEN pays so much (1 .. what it owes): what it owes then; RANGE.");
        BusyDay.refuses(CHECK, "pay(1, 1)", x -> x.pay(1, 1), -2);
        BusyDay.refuses(CHECK, "pay(1, 0)", x -> x.pay(1, 0), -2);
        LotMachine x = BusyDay.begin();
        x.pay(BusyDay.INDEBTED, 7);
        CHECK.due("pay once more", x.pay(BusyDay.INDEBTED, 1), -2);
    }

    static void payNoSuchCitizen() {
        CHECK.sentence("A CITIZEN pays so much (1 .. what it owes): what it owes then; RANGE.");
        for (int c : new int[] {-1, BusyDay.CITIZENS, 150, MIN, MAX}) {
            BusyDay.refuses(CHECK, "pay(" + c + ", 1)", x -> x.pay(c, 1), -2);
        }
    }

    static void payAllEndsTheDebt() {
        CHECK.sentence("(Without any it has no DEBT.)");
        LotMachine x = withSworn(-11000, 2);
        x.owe(0, 2, 0);
        x.owe(0, 1, 2);
        x.pay(0, 2);
        CHECK.due("may sit with 1 owed", x.about(0, 5), 0);
        x.pay(0, 1);
        CHECK.due("may sit", x.about(0, 5), 1);
        CHECK.due("come", x.come(0), 1);
    }

    static void payDoesntUndoAStrikingOut() {
        CHECK.sentence("STRUCK OUT: one that sits and had DEBT on that day, as is told later");
        LotMachine x = BusyDay.begin();
        x.owe(1, 1, 0);
        x.pay(1, 1);
        CHECK.due("struck out", x.court(0, 11), 1);
        CHECK.due("its disc", x.disc(0, 1, 1), -4);
    }

    // ---- promise 11: about, and who MAY sit

    static void aboutNoSuchCitizen() {
        CHECK.sentence("NONE when there is none such.");
        LotMachine x = BusyDay.begin();
        for (int c : new int[] {-1, BusyDay.CITIZENS, 150, MIN, MAX}) {
            for (int what = 0; what <= 9; what++) {
                CHECK.due("about(" + c + ", " + what + ")", x.about(c, what), -1);
            }
        }
    }

    static void aboutNoSuchWhat() {
        CHECK.sentence("NONE when there is none such.");
        LotMachine x = BusyDay.begin();
        for (int what : new int[] {-1, 10, 11, MIN, MAX}) {
            CHECK.due("about(0, " + what + ")", x.about(0, what), -1);
        }
    }

    static void aboutOneThatIsNew() {
        CHECK.sentence("6: its place in its column today (NONE), 7: 1 if it is CHOSEN today, 8: the COURT to which "
            + "its LOT sent it today (NONE), 9: PAY in all.");
        LotMachine x = new LotMachine();
        x.citizen(9, 4, -40000);
        int[] want = {9, 4, -40000, 0, 0, 0, -1, 0, -1, 0};
        for (int what = 0; what < want.length; what++) {
            CHECK.due("about(0, " + what + ")", x.about(0, what), want[what]);
        }
    }

    static void aboutTodayAlone() {
        CHECK.sentence("6: its place in its column today (NONE), 7: 1 if it is CHOSEN today, 8: the COURT to which "
            + "its LOT sent it today (NONE), 9: PAY in all.");
        LotMachine x = BusyDay.begin();
        int[] today = {0, 4, -11000, 1, 0, 1, 0, 1, 2, 4};
        int[] tomorrow = {0, 4, -11000, 1, 0, 1, -1, 0, -1, 4};
        for (int what = 0; what < today.length; what++) {
            CHECK.due("about(4, " + what + ")", x.about(4, what), today[what]);
        }
        x.now(4);
        for (int what = 0; what < tomorrow.length; what++) {
            CHECK.due("about(4, " + what + ") a day later", x.about(4, what), tomorrow[what]);
        }
    }

    static void maySitIfSworn() {
        CHECK.sentence("One MAY sit on a day, if it is SWORN");
        LotMachine x = new LotMachine();
        x.citizen(0, 0, -40000);
        CHECK.due("not sworn", x.about(0, 5), 0);
        CHECK.due("come", x.come(0), -4);
        x.swear(0);
        CHECK.due("sworn", x.about(0, 5), 1);
        CHECK.due("come", x.come(0), 1);
    }

    static void maySitAsOldAsTheLawsTell() {
        CHECK.sentence("is as old in days as the laws of that day tell, or older");
        CHECK.due("10949 days old", withSworn(-10949, 0).about(0, 5), 0);
        CHECK.due("10949 days old comes", withSworn(-10949, 0).come(0), -4);
        CHECK.due("10950 days old", withSworn(-10950, 0).about(0, 5), 1);
        CHECK.due("10950 days old comes", withSworn(-10950, 0).come(0), 1);
        CHECK.due("10951 days old", withSworn(-10951, 0).about(0, 5), 1);
        CHECK.due("born -950 on day 9999", withSworn(-950, 9999).about(0, 5), 0);
        CHECK.due("born -950 on day 10000", withSworn(-950, 10000).about(0, 5), 1);
    }

    static void maySitAtAgeZeroAndAtTheMost() {
        CHECK.sentence("is as old in days as the laws of that day tell, or older");
        LotMachine x = withSworn(-1, 0);
        Check.tell(x, "age 1;", 0);
        CHECK.due("a day old, age 1", x.about(0, 5), 1);
        Check.tell(x, "age 2;", 0);
        CHECK.due("a day old, age 2", x.about(0, 5), 0);
        Check.tell(x, "age 0;", 0);
        CHECK.due("a day old, age 0", x.about(0, 5), 1);
        LotMachine y = withSworn(-40000, 20000);
        Check.tell(y, "age 60000;", 20000);
        CHECK.due("60000 days old, age 60000", y.about(0, 5), 1);
        Check.tell(y, "age 60001;", 20000);
        CHECK.due("60000 days old, age 60001", y.about(0, 5), 0);
        Check.tell(y, "age 99999;", 20000);
        CHECK.due("60000 days old, age 99999", y.about(0, 5), 0);
    }

    static void maySitByTheLawsOfThatDay() {
        CHECK.sentence("is as old in days as the laws of that day tell, or older");
        LotMachine x = withSworn(-100, 0);
        Check.tell(x, "age 100;", 1);
        CHECK.due("the day ahead of the laws' first", x.about(0, 5), 0);
        x.now(1);
        CHECK.due("the laws' first day", x.about(0, 5), 1);
    }

    static void maySitWithoutDebt() {
        CHECK.sentence("and has no DEBT: DEBTS are told with a first day, and end when they are paid.");
        LotMachine x = withSworn(-11000, 7);
        x.owe(0, 1, 7);
        CHECK.due("owes 1 from today on", x.about(0, 5), 0);
        CHECK.due("come", x.come(0), -4);
        x.now(20000);
        CHECK.due("owes it on the last day, too", x.about(0, 5), 0);
        CHECK.due("about(0, 4)", x.about(0, 4), 1);
        x.pay(0, 1);
        CHECK.due("paid", x.about(0, 5), 1);
    }

    static void oneThatCameAndOwesStays() {
        CHECK.sentence("5: 1 if it MAY sit on the CLOCK's day, 6: its place in its column today (NONE)");
        LotMachine x = withSworn(-11000, 0);
        x.come(0);
        x.owe(0, 1, 0);
        CHECK.due("may sit", x.about(0, 5), 0);
        CHECK.due("its place", x.about(0, 6), 0);
        CHECK.due("came", x.count(2), 1);
    }
}
