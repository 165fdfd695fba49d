/** Promises 20 to 29 and the terms of A SUIT: each sentence that names an edge has a test of its own. */
public final class CourtsEdgesTest {
    private static final Check CHECK = new Check("CourtsEdgesTest");
    private static final int MIN = Integer.MIN_VALUE;
    private static final int MAX = Integer.MAX_VALUE;
    private static final int ACCUSER = Courtroom.ACCUSER;
    private static final int ACCUSED = Courtroom.ACCUSED;
    private static final int FIRST_SEAT = Courtroom.FIRST_SEAT;
    // Courts that there aren't.
    private static final int[] NO_COURTS = {-1, 5, MIN, MAX};

    public static void main(String[] args) {
        CHECK.runEach(CourtsEdgesTest.class);
        CHECK.end();
    }

    private static void oweTheMost(LotMachine x, int c) {
        x.owe(c, 1000000000, 0);
        x.owe(c, 1000000000, 0);
    }

    /** A suit of all discs told, of which so many that convict and so many that acquit are struck out later. */
    private static LotMachine judged(String laws, int size, int convicting, int struckConvicting, int struckAcquitting) {
        LotMachine x = Courtroom.withCourt(size);
        Check.tell(x, laws, 0);
        x.suit(0, 0, ACCUSER, ACCUSED, 10);
        Courtroom.tellDiscs(x, size, convicting);
        for (int i = 0; i < struckConvicting; i++) {
            x.owe(FIRST_SEAT + i, 1, 0);
        }
        for (int i = 0; i < struckAcquitting; i++) {
            x.owe(FIRST_SEAT + size - 1 - i, 1, 0);
        }
        return x;
    }

    // ---- promise 20: open

    static void openNoSuchCourt() {
        CHECK.sentence("COURTS 0 .. 4 are opened with a size (1 .. 25, odd).");
        for (int court : NO_COURTS) {
            BusyDay.refuses(CHECK, "open(" + court + ", 3)", x -> x.open(court, 3), -2);
        }
        LotMachine x = new LotMachine();
        for (int court = 0; court <= 4; court++) {
            CHECK.due("open(" + court + ", 3)", x.open(court, 3), 3);
        }
    }

    static void openSizes() {
        CHECK.sentence("COURTS 0 .. 4 are opened with a size (1 .. 25, odd).");
        for (int size : new int[] {0, -1, -3, 26, 27, MIN, MIN + 1, MAX, MAX - 1}) {
            BusyDay.refuses(CHECK, "open(4, " + size + ")", x -> x.open(4, size), -2);
        }
        for (int size = 1; size <= 25; size += 2) {
            CHECK.due("open(4, " + size + ")", new LotMachine().open(4, size), size);
        }
    }

    static void openOddSizesAlone() {
        CHECK.sentence("COURTS 0 .. 4 are opened with a size (1 .. 25, odd).");
        for (int size = 2; size <= 24; size += 2) {
            LotMachine x = new LotMachine();
            CHECK.due("open(4, " + size + ")", x.open(4, size), -2);
            CHECK.due("court(4, 0)", x.court(4, 0), 0);
        }
    }

    static void openItIsOpen() {
        CHECK.sentence("A COURT is opened for today: its size; RANGE; STATE: it is open.");
        for (int court = 0; court <= 3; court++) {
            int open = court;
            BusyDay.refuses(CHECK, "open(" + court + ", 3)", x -> x.open(open, 3), -4);
            BusyDay.refuses(CHECK, "open(" + court + ", 1)", x -> x.open(open, 1), -4);
        }
    }

    static void openRangeAheadOfState() {
        CHECK.sentence("A COURT is opened for today: its size; RANGE; STATE: it is open.");
        BusyDay.refuses(CHECK, "open(0, 2)", x -> x.open(0, 2), -2);
        BusyDay.refuses(CHECK, "open(0, 27)", x -> x.open(0, 27), -2);
    }

    static void openForToday() {
        CHECK.sentence("A COURT is opened for today: its size; RANGE; STATE: it is open.");
        LotMachine x = BusyDay.begin();
        x.now(4);
        CHECK.due("open(0, 25) on another day", x.open(0, 25), 25);
        CHECK.due("court(0, 0)", x.court(0, 0), 25);
        CHECK.due("court(0, 1)", x.court(0, 1), 0);
        CHECK.due("open(0, 25) again", x.open(0, 25), -4);
    }

    // ---- promise 21: lot

    static void lotNoSuchCourt() {
        CHECK.sentence("RANGE: no such COURT; STATE: it isn't open, or full; NONE: nobody is left.");
        for (int court : NO_COURTS) {
            BusyDay.refuses(CHECK, "lot(" + court + ")", x -> x.lot(court), -2);
        }
    }

    static void lotItIsntOpen() {
        CHECK.sentence("RANGE: no such COURT; STATE: it isn't open, or full; NONE: nobody is left.");
        BusyDay.refuses(CHECK, "lot(4)", x -> x.lot(4), -4);
        CHECK.due("with nobody chosen, too", new LotMachine().lot(0), -4);
    }

    static void lotItIsFull() {
        CHECK.sentence("RANGE: no such COURT; STATE: it isn't open, or full; NONE: nobody is left.");
        for (int court = 0; court <= 2; court++) {
            int full = court;
            BusyDay.refuses(CHECK, "lot(" + court + ")", x -> x.lot(full), -4);
        }
        LotMachine x = Courtroom.withCourt(25);
        CHECK.due("the most that sit", x.court(0, 1), 25);
        CHECK.due("nobody is left, but it is full", x.lot(0), -4);
    }

    static void lotNobodyIsLeft() {
        CHECK.sentence("RANGE: no such COURT; STATE: it isn't open, or full; NONE: nobody is left.");
        LotMachine x = Courtroom.withChosen(1);
        x.open(0, 7);
        for (int i = 0; i < 5; i++) {
            CHECK.due("lot " + i, x.lot(0), FIRST_SEAT + i);
        }
        CHECK.due("nobody is left", x.lot(0), -1);
        CHECK.due("how many sit", x.court(0, 1), 5);
        CHECK.due("those with a lot", x.count(4), 5);
        LotMachine y = new LotMachine();
        y.open(0, 1);
        CHECK.due("nobody was chosen", y.lot(0), -1);
    }

    static void lotTheFirstOneThatHasNone() {
        CHECK.sentence("A LOT sends the first one that has none to a COURT that isn't full.");
        LotMachine x = BusyDay.begin();
        CHECK.due("who", x.lot(3), 6);
        CHECK.due("its court", x.about(6, 8), 3);
        CHECK.due("those with a lot", x.count(4), 7);
        CHECK.due("the next", x.lot(3), 7);
        CHECK.due("full", x.lot(3), -4);
        x.open(4, 1);
        CHECK.due("the next, to another court", x.lot(4), 8);
    }

    static void lotOfOneThatOwes() {
        CHECK.sentence("The LOT of the first that is CHOSEN and has none: who");
        LotMachine x = BusyDay.begin();
        x.owe(6, 1, 0);
        CHECK.due("who", x.lot(3), 6);
    }

    // ---- promise 22: seat

    static void seatNone() {
        CHECK.sentence("Who sits in a COURT as the i-th (as LOTS fell); NONE.");
        LotMachine x = BusyDay.begin();
        for (int court : NO_COURTS) {
            CHECK.due("seat(" + court + ", 0)", x.seat(court, 0), -1);
        }
        for (int i : new int[] {-1, 3, 25, MIN, MAX}) {
            CHECK.due("seat(0, " + i + ")", x.seat(0, i), -1);
        }
        CHECK.due("a seat that is free", x.seat(3, 1), -1);
        CHECK.due("a court that is shut", x.seat(4, 0), -1);
    }

    static void seatAsLotsFell() {
        CHECK.sentence("Who sits in a COURT as the i-th (as LOTS fell); NONE.");
        LotMachine x = Courtroom.withCourt(25);
        for (int i = 0; i < 25; i++) {
            CHECK.due("seat(0, " + i + ")", x.seat(0, i), FIRST_SEAT + i);
        }
        CHECK.due("seat(0, 25)", x.seat(0, 25), -1);
    }

    // ---- promise 23: suit

    static void suitNoSuchCourt() {
        CHECK.sentence("RANGE: no such COURT, kind, CITIZENS (unlike, who don't sit there), sum");
        for (int court : NO_COURTS) {
            BusyDay.refuses(CHECK, "court " + court, x -> x.suit(court, 0, 10, 11, 0), -2);
        }
    }

    static void suitNoSuchKind() {
        CHECK.sentence("RANGE: no such COURT, kind, CITIZENS (unlike, who don't sit there), sum");
        for (int kind : new int[] {-1, 6, MIN, MAX}) {
            BusyDay.refuses(CHECK, "kind " + kind, x -> x.suit(2, kind, 10, 11, 0), -2);
        }
        for (int kind = 0; kind <= 5; kind++) {
            LotMachine x = BusyDay.begin();
            CHECK.due("kind " + kind, x.suit(2, kind, 10, 11, 0), 10);
            CHECK.due("court(2, 3)", x.court(2, 3), kind);
        }
    }

    static void suitNoSuchCitizens() {
        CHECK.sentence("RANGE: no such COURT, kind, CITIZENS (unlike, who don't sit there), sum");
        for (int c : new int[] {-1, BusyDay.CITIZENS, 150, MIN, MAX}) {
            BusyDay.refuses(CHECK, "accuser " + c, x -> x.suit(2, 0, c, 11, 0), -2);
            BusyDay.refuses(CHECK, "accused " + c, x -> x.suit(2, 0, 10, c, 0), -2);
        }
        CHECK.due("the first and the last", BusyDay.begin().suit(2, 0, 0, BusyDay.CITIZENS - 1, 0), 10);
        CHECK.due("the last and the first", BusyDay.begin().suit(2, 0, BusyDay.CITIZENS - 1, 0, 0), 10);
    }

    static void suitUnlikeOnes() {
        CHECK.sentence("an accuser and an accused (CITIZENS, unlike ones that don't sit in it)");
        BusyDay.refuses(CHECK, "one and the same", x -> x.suit(2, 0, 10, 10, 0), -2);
        BusyDay.refuses(CHECK, "one and the same that there isn't", x -> x.suit(2, 0, -1, -1, 0), -2);
    }

    static void suitOnesThatDontSitInIt() {
        CHECK.sentence("an accuser and an accused (CITIZENS, unlike ones that don't sit in it)");
        BusyDay.refuses(CHECK, "the accuser sits in it", x -> x.suit(2, 0, 4, 11, 0), -2);
        BusyDay.refuses(CHECK, "the accused sits in it", x -> x.suit(2, 0, 10, 4, 0), -2);
        LotMachine full = Courtroom.withCourt(3);
        for (int seat = FIRST_SEAT; seat < FIRST_SEAT + 3; seat++) {
            CHECK.due("the accuser " + seat + " sits in it", full.suit(0, 0, seat, ACCUSED, 0), -2);
            CHECK.due("the accused " + seat + " sits in it", full.suit(0, 0, ACCUSER, seat, 0), -2);
        }
        CHECK.due("they sit in others", BusyDay.begin().suit(2, 0, 0, 3, 0), 10);
    }

    static void suitSums() {
        CHECK.sentence("a sum 0 .. 1000000");
        for (int sum : new int[] {-1, 1000001, MIN, MAX}) {
            BusyDay.refuses(CHECK, "sum " + sum, x -> x.suit(2, 0, 10, 11, sum), -2);
        }
        for (int sum : new int[] {0, 1, 999999, 1000000}) {
            LotMachine x = BusyDay.begin();
            CHECK.due("sum " + sum, x.suit(2, 0, 10, 11, sum), 10);
            CHECK.due("court(2, 6)", x.court(2, 6), sum);
        }
    }

    static void suitTheCourtIsntFull() {
        CHECK.sentence("STATE: the COURT isn't full, or has one that is open.");
        BusyDay.refuses(CHECK, "two seats are free", x -> x.suit(3, 0, 10, 11, 0), -4);
        BusyDay.refusesBehind(CHECK, x -> x.lot(3), "one seat is free", x -> x.suit(3, 0, 10, 11, 0), -4);
        BusyDay.refuses(CHECK, "a court that is shut", x -> x.suit(4, 0, 10, 11, 0), -4);
        LotMachine x = BusyDay.begin();
        x.lot(3);
        x.lot(3);
        CHECK.due("no seat is free", x.suit(3, 0, 10, 11, 0), 10);
    }

    static void suitOneIsOpen() {
        CHECK.sentence("STATE: the COURT isn't full, or has one that is open.");
        BusyDay.refuses(CHECK, "one is open", x -> x.suit(0, 0, 10, 11, 0), -4);
        BusyDay.refuses(CHECK, "one is open, with all discs told", x -> x.suit(1, 0, 10, 11, 0), -4);
        LotMachine x = BusyDay.begin();
        x.close(1);
        CHECK.due("it is closed", x.suit(1, 0, 10, 12, 0), 10);
    }

    static void suitRangeAheadOfState() {
        CHECK.sentence("RANGE: no such COURT, kind, CITIZENS (unlike, who don't sit there), sum; STATE: the COURT "
            + "isn't full");
        BusyDay.refuses(CHECK, "kind 6 of a shut court", x -> x.suit(4, 6, 10, 11, 0), -2);
        BusyDay.refuses(CHECK, "one that sits, in a court not full", x -> x.suit(3, 0, 5, 11, 0), -2);
        BusyDay.refuses(CHECK, "sum -1 with one that is open", x -> x.suit(0, 0, 10, 11, -1), -2);
    }

    static void suitWaterAtTheToldSum() {
        CHECK.sentence("(more than the told sum: the other water; without over the first one)");
        LotMachine x = Courtroom.withCourt(1);
        Check.tell(x, "suit 0 water 1 over 100 water 2 fine 0; suit 1 water 3 over 0 water 4 fine 0;"
            + "suit 2 water 5 over 99999 water 6 fine 0; suit 3 water 7 fine 0; suit 4 water 0 fine 0;"
            + "suit 5 water 99999 over 1 water 0 fine 0;", 0);
        int[][] runs = {{0, 99, 1}, {0, 100, 1}, {0, 101, 2}, {0, 1000000, 2}, {1, 0, 3}, {1, 1, 4}, {2, 99999, 5},
            {2, 100000, 6}, {3, 0, 7}, {3, 1000000, 7}, {4, 1000000, 0}, {5, 1, 99999}, {5, 2, 0}};
        for (int[] run : runs) {
            CHECK.due("kind " + run[0] + ", sum " + run[1], x.suit(0, run[0], ACCUSER, ACCUSED, run[1]), run[2]);
            CHECK.due("court(0, 7)", x.court(0, 7), run[2]);
            CHECK.due("court(0, 8)", x.court(0, 8), run[2]);
            x.disc(0, FIRST_SEAT, 0);
            CHECK.due("close", x.close(0), 0);
        }
    }

    static void suitWaterOfTheClocksDay() {
        CHECK.sentence("what the laws IN FORCE on the CLOCK's day tell of K");
        LotMachine x = Courtroom.withCourt(1);
        Check.tell(x, "suit 0 water 77 fine 0;", 1);
        CHECK.due("ahead of the laws' first day", x.suit(0, 0, ACCUSER, ACCUSED, 0), 10);
        x.disc(0, FIRST_SEAT, 0);
        x.close(0);
        Check.tell(x, "suit 0 water 66 fine 0;", 0);
        CHECK.due("on the laws' first day", x.suit(0, 0, ACCUSER, ACCUSED, 0), 66);
        Check.tell(x, "suit 0 water 55 fine 0;", 0);
        CHECK.due("its water stays", x.court(0, 8), 66);
    }

    // ---- promise 24: speak

    static void speakNoSuchCourt() {
        CHECK.sentence("RANGE: no such COURT, side, minutes");
        for (int court : NO_COURTS) {
            BusyDay.refuses(CHECK, "court " + court, x -> x.speak(court, 0, 1), -2);
        }
    }

    static void speakNoSuchSide() {
        CHECK.sentence("SPEAK: a side (0 accuser, 1 accused) speaks so many minutes");
        for (int side : new int[] {-1, 2, MIN, MAX}) {
            BusyDay.refuses(CHECK, "side " + side, x -> x.speak(0, side, 1), -2);
        }
    }

    static void speakMinutes() {
        CHECK.sentence("A side speaks so many minutes (1 .. 1000)");
        for (int minutes : new int[] {0, -1, 1001, MIN, MAX}) {
            BusyDay.refuses(CHECK, "minutes " + minutes, x -> x.speak(0, 0, minutes), -2);
        }
        LotMachine x = Courtroom.withCourt(1);
        Check.tell(x, "suit 0 water 2001 fine 0;", 0);
        x.suit(0, 0, ACCUSER, ACCUSED, 0);
        CHECK.due("1 minute", x.speak(0, 0, 1), 2000);
        CHECK.due("1001 minutes", x.speak(0, 0, 1001), -2);
        CHECK.due("1000 minutes", x.speak(0, 0, 1000), 1000);
        CHECK.due("1000 minutes more", x.speak(0, 0, 1000), 0);
    }

    static void speakNoSuitIsOpen() {
        CHECK.sentence("STATE: no SUIT is open, it is not its turn, a WITNESS is heard, a DISC was told, or it has "
            + "less.");
        BusyDay.refuses(CHECK, "its suit is closed", x -> x.speak(2, 0, 1), -4);
        BusyDay.refuses(CHECK, "it had none", x -> x.speak(3, 0, 1), -4);
        BusyDay.refuses(CHECK, "it is shut", x -> x.speak(4, 0, 1), -4);
        BusyDay.refuses(CHECK, "RANGE ahead of STATE", x -> x.speak(4, 0, 0), -2);
    }

    static void speakAheadOfTheAccusersFirstWords() {
        CHECK.sentence("The accused doesn't speak ahead of the accuser's first words; nobody behind the first DISC.");
        LotMachine x = Courtroom.withSuit(1, 0);
        CHECK.due("the accused first", x.speak(0, 1, 1), -4);
        CHECK.due("its water", x.court(0, 8), 10);
        CHECK.due("the accuser, refused", x.speak(0, 0, 11), -4);
        CHECK.due("the accused still first", x.speak(0, 1, 1), -4);
        CHECK.due("the accuser's first words", x.speak(0, 0, 1), 9);
        CHECK.due("the accused", x.speak(0, 1, 1), 9);
        CHECK.due("the accused again", x.speak(0, 1, 1), 8);
        CHECK.due("the accuser again", x.speak(0, 0, 1), 8);
    }

    static void speakFirstWordsOfEachSuit() {
        CHECK.sentence("The accused doesn't speak ahead of the accuser's first words; nobody behind the first DISC.");
        LotMachine x = Courtroom.withSuit(1, 0);
        x.speak(0, 0, 1);
        x.disc(0, FIRST_SEAT, 0);
        x.close(0);
        x.suit(0, 0, ACCUSER, ACCUSED, 0);
        CHECK.due("the accused of a second suit", x.speak(0, 1, 1), -4);
        CHECK.due("the accuser of a second suit", x.speak(0, 0, 10), 0);
    }

    static void speakBehindTheFirstDisc() {
        CHECK.sentence("The accused doesn't speak ahead of the accuser's first words; nobody behind the first DISC.");
        BusyDay.refusesBehind(CHECK, x -> x.disc(0, 1, 0), "the accuser", x -> x.speak(0, 0, 1), -4);
        BusyDay.refusesBehind(CHECK, x -> x.disc(0, 1, 0), "the accused", x -> x.speak(0, 1, 1), -4);
        LotMachine x = Courtroom.withSuit(3, 0);
        x.speak(0, 0, 1);
        CHECK.due("a disc that is refused", x.disc(0, ACCUSER, 0), -4);
        CHECK.due("is none", x.speak(0, 0, 1), 8);
        x.disc(0, FIRST_SEAT, 0);
        x.owe(FIRST_SEAT, 1, 0);
        CHECK.due("a disc was told, though it counts no more", x.speak(0, 0, 1), -4);
    }

    static void speakWhileAWitnessIsHeard() {
        CHECK.sentence("while a WITNESS of it is heard its water stands.");
        BusyDay.refusesBehind(CHECK, x -> x.witness(0), "the accuser", x -> x.speak(0, 0, 1), -4);
        BusyDay.refusesBehind(CHECK, x -> x.witness(0), "the accused", x -> x.speak(0, 1, 1), -4);
        LotMachine x = BusyDay.begin();
        x.witness(0);
        x.witness(0);
        CHECK.due("its water stood", x.court(0, 7), 6);
        CHECK.due("behind the witness", x.speak(0, 0, 6), 0);
    }

    static void speakAtMostWhatItHasLeft() {
        CHECK.sentence("speaks so many minutes, at most what it has left");
        BusyDay.refuses(CHECK, "7 of 6", x -> x.speak(0, 0, 7), -4);
        BusyDay.refuses(CHECK, "11 of 10", x -> x.speak(0, 1, 11), -4);
        BusyDay.refuses(CHECK, "1000 of 6", x -> x.speak(0, 0, 1000), -4);
        LotMachine x = BusyDay.begin();
        CHECK.due("6 of 6", x.speak(0, 0, 6), 0);
        CHECK.due("1 of 0", x.speak(0, 0, 1), -4);
        CHECK.due("10 of 10", x.speak(0, 1, 10), 0);
        CHECK.due("1 of 0 of the accused", x.speak(0, 1, 1), -4);
    }

    static void speakWithoutWater() {
        CHECK.sentence("speaks so many minutes, at most what it has left");
        LotMachine x = Courtroom.withCourt(1);
        Check.tell(x, "suit 0 water 0 fine 0;", 0);
        CHECK.due("suit", x.suit(0, 0, ACCUSER, ACCUSED, 0), 0);
        CHECK.due("1 of 0", x.speak(0, 0, 1), -4);
        CHECK.due("the accused", x.speak(0, 1, 1), -4);
    }

    // ---- promise 25: witness

    static void witnessNoSuchCourt() {
        CHECK.sentence("1 if one is heard then, else 0; RANGE; STATE: no SUIT is open, or a DISC was told.");
        for (int court : NO_COURTS) {
            BusyDay.refuses(CHECK, "witness(" + court + ")", x -> x.witness(court), -2);
        }
    }

    static void witnessNoSuitIsOpen() {
        CHECK.sentence("1 if one is heard then, else 0; RANGE; STATE: no SUIT is open, or a DISC was told.");
        for (int court = 2; court <= 4; court++) {
            int without = court;
            BusyDay.refuses(CHECK, "witness(" + court + ")", x -> x.witness(without), -4);
        }
    }

    static void witnessBehindADisc() {
        CHECK.sentence("1 if one is heard then, else 0; RANGE; STATE: no SUIT is open, or a DISC was told.");
        BusyDay.refuses(CHECK, "all discs are told", x -> x.witness(1), -4);
        BusyDay.refusesBehind(CHECK, x -> x.disc(0, 1, 0), "a disc was told", x -> x.witness(0), -4);
        LotMachine x = BusyDay.begin();
        x.disc(0, 1, 0);
        x.owe(1, 1, 0);
        CHECK.due("a disc was told, though it counts no more", x.witness(0), -4);
        LotMachine y = BusyDay.begin();
        y.owe(1, 1, 0);
        CHECK.due("one is struck out, but no disc was told", y.witness(0), 1);
    }

    static void witnessBeginsOrEnds() {
        CHECK.sentence("A WITNESS begins to be heard, or ends: 1 if one is heard then, else 0");
        LotMachine x = Courtroom.withSuit(1, 0);
        for (int i = 1; i <= 6; i++) {
            CHECK.due("witness for the " + i + ". time", x.witness(0), i % 2);
        }
    }

    static void witnessOfOneCourtAlone() {
        CHECK.sentence("A WITNESS begins to be heard, or ends: 1 if one is heard then, else 0");
        LotMachine x = Courtroom.withChosen(1);
        Courtroom.fill(x, 0, 1);
        Courtroom.fill(x, 4, 1);
        x.suit(0, 0, ACCUSER, ACCUSED, 0);
        x.suit(4, 0, ACCUSER, ACCUSED, 0);
        CHECK.due("witness(4)", x.witness(4), 1);
        CHECK.due("speak in 0", x.speak(0, 0, 1), 9);
        CHECK.due("speak in 4", x.speak(4, 0, 1), -4);
        CHECK.due("witness(0)", x.witness(0), 1);
        CHECK.due("witness(4) ends", x.witness(4), 0);
    }

    static void witnessOfASuitThatIsGone() {
        CHECK.sentence("A WITNESS begins to be heard, or ends: 1 if one is heard then, else 0");
        LotMachine x = Courtroom.withSuit(1, 0);
        x.witness(0);
        x.owe(FIRST_SEAT, 1, 0);
        CHECK.due("none is wanting", x.close(0), 0);
        x.suit(0, 0, ACCUSER, ACCUSED, 0);
        CHECK.due("speak in the next suit", x.speak(0, 0, 1), 9);
        CHECK.due("a witness begins", x.witness(0), 1);
    }

    // ---- promise 26: disc

    static void discNoSuchCourt() {
        CHECK.sentence("RANGE: no such COURT, DISC");
        for (int court : NO_COURTS) {
            BusyDay.refuses(CHECK, "court " + court, x -> x.disc(court, 1, 1), -2);
        }
    }

    static void discNoSuchDisc() {
        CHECK.sentence("each that sits tells one, once: 0 acquits, 1 convicts.");
        for (int disc : new int[] {-1, 2, MIN, MAX}) {
            BusyDay.refuses(CHECK, "disc " + disc, x -> x.disc(0, 1, disc), -2);
        }
        BusyDay.refuses(CHECK, "RANGE ahead of STATE", x -> x.disc(4, -1, 2), -2);
    }

    static void discNoSuitIsOpen() {
        CHECK.sentence("STATE: no SUIT is open, it doesn't sit there, it has told one, is STRUCK OUT, or a WITNESS "
            + "is heard.");
        BusyDay.refuses(CHECK, "its suit is closed", x -> x.disc(2, 4, 1), -4);
        BusyDay.refuses(CHECK, "it had none", x -> x.disc(3, 5, 1), -4);
        BusyDay.refuses(CHECK, "it is shut", x -> x.disc(4, 5, 1), -4);
    }

    static void discItDoesntSitThere() {
        CHECK.sentence("STATE: no SUIT is open, it doesn't sit there, it has told one, is STRUCK OUT, or a WITNESS "
            + "is heard.");
        for (int c : new int[] {3, 9, BusyDay.ACCUSER, BusyDay.ACCUSED, BusyDay.CITIZENS, -1, 150, MIN, MAX}) {
            BusyDay.refuses(CHECK, "citizen " + c, x -> x.disc(0, c, 1), -4);
        }
    }

    static void discItHasToldOne() {
        CHECK.sentence("each that sits tells one, once: 0 acquits, 1 convicts.");
        BusyDay.refuses(CHECK, "the same", x -> x.disc(1, 3, 1), -4);
        BusyDay.refuses(CHECK, "the other", x -> x.disc(1, 3, 0), -4);
        BusyDay.refusesBehind(CHECK, x -> x.disc(0, 1, 0), "the other, of 0", x -> x.disc(0, 1, 1), -4);
    }

    static void discOfOneStruckOut() {
        CHECK.sentence("STATE: no SUIT is open, it doesn't sit there, it has told one, is STRUCK OUT, or a WITNESS "
            + "is heard.");
        BusyDay.refusesBehind(CHECK, x -> x.owe(2, 1, 0), "struck out", x -> x.disc(0, 2, 1), -4);
    }

    static void discWhileAWitnessIsHeard() {
        CHECK.sentence("STATE: no SUIT is open, it doesn't sit there, it has told one, is STRUCK OUT, or a WITNESS "
            + "is heard.");
        BusyDay.refusesBehind(CHECK, x -> x.witness(0), "a witness is heard", x -> x.disc(0, 1, 1), -4);
        LotMachine x = BusyDay.begin();
        x.witness(0);
        x.witness(0);
        CHECK.due("behind the witness", x.disc(0, 1, 1), 2);
    }

    static void discHowManyAreWanting() {
        CHECK.sentence("One that sits tells its DISC: how many are wanting");
        LotMachine x = Courtroom.withSuit(25, 0);
        for (int i = 24; i >= 0; i--) {
            CHECK.due("disc of seat " + i, x.disc(0, FIRST_SEAT + i, i % 2), i);
        }
        LotMachine y = Courtroom.withSuit(1, 0);
        CHECK.due("the only one", y.disc(0, FIRST_SEAT, 0), 0);
    }

    static void discOfOneStruckOutIsntWanting() {
        CHECK.sentence("One that sits tells its DISC: how many are wanting");
        LotMachine x = Courtroom.withSuit(5, 0);
        x.owe(FIRST_SEAT, 1, 0);
        CHECK.due("the second", x.disc(0, FIRST_SEAT + 1, 1), 3);
        x.owe(FIRST_SEAT + 1, 1, 0);
        CHECK.due("the third, one that told is struck out", x.disc(0, FIRST_SEAT + 2, 1), 2);
        x.owe(FIRST_SEAT + 3, 1, 0);
        CHECK.due("the last", x.disc(0, FIRST_SEAT + 4, 0), 0);
    }

    static void discWithoutAWord() {
        CHECK.sentence("One that sits tells its DISC: how many are wanting");
        LotMachine x = Courtroom.withSuit(3, 0);
        CHECK.due("nobody has spoken", x.disc(0, FIRST_SEAT, 1), 2);
    }

    // ---- promise 27: close

    static void closeNoSuchCourt() {
        CHECK.sentence("The SUIT is CLOSED: 1 CONVICTED, 0 not; RANGE; STATE: none is open, or a DISC is wanting.");
        for (int court : NO_COURTS) {
            BusyDay.refuses(CHECK, "close(" + court + ")", x -> x.close(court), -2);
        }
    }

    static void closeNoneIsOpen() {
        CHECK.sentence("The SUIT is CLOSED: 1 CONVICTED, 0 not; RANGE; STATE: none is open, or a DISC is wanting.");
        for (int court = 2; court <= 4; court++) {
            int without = court;
            BusyDay.refuses(CHECK, "close(" + court + ")", x -> x.close(without), -4);
        }
        LotMachine x = BusyDay.begin();
        CHECK.due("close(1)", x.close(1), 1);
        CHECK.due("close(1) again", x.close(1), -4);
        CHECK.due("owes by it once", x.about(BusyDay.ACCUSED, 4), 5);
        CHECK.due("closed in all", x.count(7), 2);
    }

    static void closeADiscIsWanting() {
        CHECK.sentence("CLOSED, when all are told");
        BusyDay.refuses(CHECK, "three are wanting", x -> x.close(0), -4);
        BusyDay.refusesBehind(CHECK, x -> x.disc(0, 2, 1), "two are wanting", x -> x.close(0), -4);
        BusyDay.refusesBehind(CHECK, x -> {
            x.disc(0, 2, 1);
            x.disc(0, 0, 1);
        }, "one is wanting", x -> x.close(0), -4);
        LotMachine x = BusyDay.begin();
        x.disc(0, 2, 1);
        x.disc(0, 0, 1);
        x.owe(1, 1, 0);
        CHECK.due("the one that is wanting is struck out", x.close(0), 1);
    }

    static void closeConvictedByMoreThanHalf() {
        CHECK.sentence("CONVICTED by more than half, or by half if ties convict");
        int[][] runs = {{1, 0, 0}, {1, 1, 1}, {3, 1, 0}, {3, 2, 1}, {5, 2, 0}, {5, 3, 1}, {25, 12, 0}, {25, 13, 1},
            {25, 0, 0}, {25, 25, 1}};
        for (int[] run : runs) {
            for (String ties : new String[] {"tie acquit;", "tie convict;"}) {
                LotMachine x = judged(ties, run[0], run[1], 0, 0);
                CHECK.due(ties + " " + run[1] + " of " + run[0], x.close(0), run[2]);
                CHECK.due("verdict", x.court(0, 12), run[2]);
            }
        }
    }

    static void closeByHalf() {
        CHECK.sentence("or by half if ties convict (sizes are odd, so only by those that were struck out).");
        int[][] runs = {{3, 2, 1, 0}, {3, 1, 0, 1}, {25, 12, 0, 1}, {25, 13, 1, 0}, {5, 3, 2, 1}};
        for (int[] run : runs) {
            String of = run[1] + " of " + run[0];
            LotMachine acquit = judged("", run[0], run[1], run[2], run[3]);
            CHECK.due(of + ", ties acquit", acquit.close(0), 0);
            CHECK.due(of + ", nobody owes", acquit.court(0, 13), -1);
            LotMachine convict = judged("tie convict;", run[0], run[1], run[2], run[3]);
            CHECK.due(of + ", ties convict", convict.close(0), 1);
            CHECK.due(of + ", the accused owes", convict.court(0, 13), ACCUSED);
        }
    }

    static void closeJustBesideHalf() {
        CHECK.sentence("CONVICTED by more than half, or by half if ties convict");
        CHECK.due("1 of 4, ties convict", judged("tie convict;", 5, 2, 1, 0).close(0), 0);
        CHECK.due("3 of 4, ties acquit", judged("", 5, 3, 0, 1).close(0), 1);
        CHECK.due("11 of 24, ties convict", judged("tie convict;", 25, 12, 1, 0).close(0), 0);
        CHECK.due("13 of 24, ties acquit", judged("", 25, 13, 0, 1).close(0), 1);
    }

    static void closeWithAllStruckOut() {
        CHECK.sentence("CONVICTED by more than half, or by half if ties convict");
        LotMachine x = judged("", 3, 2, 2, 1);
        CHECK.due("none of none, ties acquit", x.close(0), 0);
        CHECK.due("nobody owes", x.court(0, 13), -1);
        CHECK.due("how much", x.court(0, 14), 0);
        CHECK.due("pay in all", x.count(8), 0);
        LotMachine y = judged("tie convict;", 3, 2, 2, 1);
        CHECK.due("none of none, ties convict", y.close(0), 1);
        CHECK.due("the accused owes", y.court(0, 14), 10);
    }

    static void closeStruckOutCountsNoMore() {
        CHECK.sentence("its DISC counts no more, while the SUIT isn't CLOSED.");
        LotMachine x = judged("", 5, 3, 2, 0);
        CHECK.due("discs that count", x.court(0, 9), 3);
        CHECK.due("those that convict", x.court(0, 10), 1);
        CHECK.due("struck out", x.court(0, 11), 2);
        CHECK.due("close", x.close(0), 0);
        x.owe(FIRST_SEAT + 2, 1, 0);
        CHECK.due("struck out of a closed one", x.court(0, 11), 2);
        CHECK.due("discs of a closed one", x.court(0, 9), 3);
        CHECK.due("those that convict of a closed one", x.court(0, 10), 1);
    }

    static void closeConvictedOwesFineAndSum() {
        CHECK.sentence("CONVICTED: the accused owes the fine told of K, and the sum");
        int[][] runs = {{99999, 1000000, 1099999}, {0, 1, 1}, {1, 0, 1}, {0, 1000000, 1000000}, {99999, 0, 99999}};
        for (int[] run : runs) {
            LotMachine x = Courtroom.withCourt(1);
            Check.tell(x, "suit 4 water 1 fine " + run[0] + "; suit 5 water 1 fine 3;", 0);
            x.suit(0, 4, ACCUSER, ACCUSED, run[1]);
            x.disc(0, FIRST_SEAT, 1);
            CHECK.due("close", x.close(0), 1);
            CHECK.due("who owes", x.court(0, 13), ACCUSED);
            CHECK.due("how much", x.court(0, 14), run[2]);
            CHECK.due("the accused owes", x.about(ACCUSED, 4), run[2]);
            CHECK.due("the accuser owes", x.about(ACCUSER, 4), 0);
        }
    }

    static void closeOfNothing() {
        CHECK.sentence("CONVICTED: the accused owes the fine told of K, and the sum");
        LotMachine x = Courtroom.withSuit(1, 0);
        x.disc(0, FIRST_SEAT, 1);
        CHECK.due("close", x.close(0), 1);
        CHECK.due("who owes", x.court(0, 13), -1);
        CHECK.due("how much", x.court(0, 14), 0);
        CHECK.due("the accused may sit", x.about(ACCUSED, 5), 1);
    }

    static void closeFifths() {
        CHECK.sentence("else the accuser owes what fifth tells, if the DISCS that convict, five times, are below all "
            + "that count.");
        int[][] runs = {{1, 0, 1}, {3, 0, 1}, {3, 1, 0}, {5, 0, 1}, {5, 1, 0}, {7, 1, 1}, {7, 2, 0}, {25, 4, 1},
            {25, 5, 0}, {25, 6, 0}};
        for (int[] run : runs) {
            String of = run[1] + " of " + run[0];
            LotMachine x = judged("", run[0], run[1], 0, 0);
            CHECK.due(of, x.close(0), 0);
            CHECK.due(of + ", who owes", x.court(0, 13), run[2] == 1 ? ACCUSER : -1);
            CHECK.due(of + ", how much", x.court(0, 14), run[2] * 1000);
            CHECK.due(of + ", the accuser owes", x.about(ACCUSER, 4), run[2] * 1000);
            CHECK.due(of + ", the accused owes", x.about(ACCUSED, 4), 0);
        }
    }

    static void closeFifthsOfAllThatCount() {
        CHECK.sentence("else the accuser owes what fifth tells, if the DISCS that convict, five times, are below all "
            + "that count.");
        int[][] runs = {{7, 1, 0, 1, 1}, {7, 1, 0, 2, 0}, {7, 2, 1, 0, 1}, {11, 2, 0, 1, 0}, {11, 2, 0, 0, 1},
            {3, 1, 1, 2, 0}};
        for (int[] run : runs) {
            String of = run[1] + " of " + run[0] + " without " + run[2] + " and " + run[3];
            LotMachine x = judged("", run[0], run[1], run[2], run[3]);
            CHECK.due(of, x.close(0), 0);
            CHECK.due(of + ", who owes", x.court(0, 13), run[4] == 1 ? ACCUSER : -1);
        }
    }

    static void closeFifthToldByTheLaws() {
        CHECK.sentence("else the accuser owes what fifth tells");
        for (int fifth : new int[] {0, 1, 99999}) {
            LotMachine x = judged("fifth " + fifth + ";", 1, 0, 0, 0);
            CHECK.due("close", x.close(0), 0);
            CHECK.due("who owes", x.court(0, 13), fifth == 0 ? -1 : ACCUSER);
            CHECK.due("how much", x.court(0, 14), fifth);
            CHECK.due("the accuser owes", x.about(ACCUSER, 4), fifth);
        }
    }

    static void closeADebtOfThatDay() {
        CHECK.sentence("What is owed is a DEBT of that day.");
        LotMachine x = Courtroom.withSuit(1, 1);
        x.disc(0, FIRST_SEAT, 1);
        CHECK.due("may sit ahead of it", x.about(ACCUSED, 5), 1);
        x.close(0);
        CHECK.due("may sit", x.about(ACCUSED, 5), 0);
        CHECK.due("come", x.come(ACCUSED), -4);
        x.now(1);
        CHECK.due("may sit on another day", x.about(ACCUSED, 5), 0);
        CHECK.due("pay", x.pay(ACCUSED, 1), 0);
        CHECK.due("may sit then", x.about(ACCUSED, 5), 1);
    }

    static void closeADebtStrikesOutElsewhere() {
        CHECK.sentence("STRUCK OUT: one that sits and had DEBT on that day, as is told later");
        LotMachine x = BusyDay.begin();
        x.suit(2, 0, 10, 1, 5);
        x.disc(2, 4, 1);
        CHECK.due("close(2)", x.close(2), 1);
        CHECK.due("the accused sits in court 0", x.court(0, 11), 1);
        CHECK.due("its disc", x.disc(0, 1, 0), -4);
    }

    static void closePay() {
        CHECK.sentence("Each whose DISC counts has PAY.");
        LotMachine x = judged("pay 99999;", 5, 3, 1, 1);
        x.close(0);
        CHECK.due("pay in all", x.count(8), 3 * 99999);
        for (int i = 0; i < 5; i++) {
            CHECK.due("pay of seat " + i, x.about(FIRST_SEAT + i, 9), i == 0 || i == 4 ? 0 : 99999);
        }
        CHECK.due("pay of the accuser", x.about(ACCUSER, 9), 0);
        LotMachine y = judged("pay 0;", 1, 1, 0, 0);
        y.close(0);
        CHECK.due("pay 0", y.count(8), 0);
    }

    static void closePayOfOneStruckOutUntold() {
        CHECK.sentence("Each whose DISC counts has PAY.");
        LotMachine x = Courtroom.withSuit(3, 0);
        x.owe(FIRST_SEAT, 1, 0);
        x.disc(0, FIRST_SEAT + 1, 1);
        x.disc(0, FIRST_SEAT + 2, 1);
        x.close(0);
        CHECK.due("pay of the one", x.about(FIRST_SEAT, 9), 0);
        CHECK.due("pay of another", x.about(FIRST_SEAT + 1, 9), 3);
        CHECK.due("pay in all", x.count(8), 6);
    }

    static void closeFullOfTheAccused() {
        CHECK.sentence("FULL: somebody would owe more than 2000000000 (it stays open).");
        BusyDay.refusesBehind(CHECK, x -> oweTheMost(x, BusyDay.ACCUSED), "close(1)", x -> x.close(1), -3);
        LotMachine x = Courtroom.withSuit(1, 10);
        x.disc(0, FIRST_SEAT, 1);
        oweTheMost(x, ACCUSED);
        x.pay(ACCUSED, 9);
        CHECK.due("one too much", x.close(0), -3);
        CHECK.due("it stays open", x.court(0, 2), 1);
        CHECK.due("verdict", x.court(0, 12), -1);
        CHECK.due("who owes", x.court(0, 13), -1);
        CHECK.due("how much", x.court(0, 14), -1);
        CHECK.due("closed in all", x.count(7), 0);
        CHECK.due("pay in all", x.count(8), 0);
        CHECK.due("pay 1 of the debt", x.pay(ACCUSED, 1), 1999999990);
        CHECK.due("just enough", x.close(0), 1);
        CHECK.due("owes", x.about(ACCUSED, 4), 2000000000);
        CHECK.due("pay in all then", x.count(8), 3);
    }

    static void closeFullOfTheAccuser() {
        CHECK.sentence("FULL: somebody would owe more than 2000000000 (it stays open).");
        LotMachine x = Courtroom.withSuit(1, 10);
        x.disc(0, FIRST_SEAT, 0);
        oweTheMost(x, ACCUSER);
        x.pay(ACCUSER, 999);
        CHECK.due("one too much", x.close(0), -3);
        CHECK.due("it stays open", x.court(0, 2), 1);
        x.pay(ACCUSER, 1);
        CHECK.due("just enough", x.close(0), 0);
        CHECK.due("owes", x.about(ACCUSER, 4), 2000000000);
    }

    static void closeFullOnlyOfOneThatWouldOwe() {
        CHECK.sentence("FULL: somebody would owe more than 2000000000 (it stays open).");
        LotMachine x = Courtroom.withSuit(1, 10);
        x.disc(0, FIRST_SEAT, 1);
        oweTheMost(x, ACCUSER);
        CHECK.due("the accuser owes nothing by it", x.close(0), 1);
        LotMachine y = Courtroom.withSuit(1, 10);
        y.disc(0, FIRST_SEAT, 0);
        oweTheMost(y, ACCUSED);
        CHECK.due("the accused owes nothing by it", y.close(0), 0);
        LotMachine z = Courtroom.withSuit(1, 0);
        z.disc(0, FIRST_SEAT, 1);
        oweTheMost(z, ACCUSED);
        CHECK.due("nothing is owed", z.close(0), 1);
    }

    static void closeFullStrikesNobodyOut() {
        CHECK.sentence("FULL: somebody would owe more than 2000000000 (it stays open).");
        LotMachine x = Courtroom.withChosen(1);
        Courtroom.fill(x, 0, 1);
        Courtroom.fill(x, 1, 3);
        oweTheMost(x, FIRST_SEAT + 1);
        x.suit(1, 0, ACCUSER, ACCUSED, 0);
        x.suit(0, 0, ACCUSER, FIRST_SEAT + 1, 1);
        x.disc(0, FIRST_SEAT, 1);
        CHECK.due("close", x.close(0), -3);
        CHECK.due("struck out of the other suit", x.court(1, 11), 0);
        CHECK.due("its disc", x.disc(1, FIRST_SEAT + 1, 1), 2);
    }

    // ---- promise 28: court

    static void courtNoSuchCourt() {
        CHECK.sentence("NONE when there is none such.");
        LotMachine x = BusyDay.begin();
        for (int court : NO_COURTS) {
            for (int what = 0; what <= 14; what++) {
                CHECK.due("court(" + court + ", " + what + ")", x.court(court, what), -1);
            }
        }
    }

    static void courtNoSuchWhat() {
        CHECK.sentence("NONE when there is none such.");
        LotMachine x = BusyDay.begin();
        for (int court = 0; court <= 4; court++) {
            for (int what : new int[] {-1, 15, 16, MIN, MAX}) {
                CHECK.due("court(" + court + ", " + what + ")", x.court(court, what), -1);
            }
        }
    }

    private static void courtAnswers(LotMachine x, int court, int... want) {
        for (int what = 0; what < want.length; what++) {
            CHECK.due("court(" + court + ", " + what + ")", x.court(court, what), want[what]);
        }
    }

    static void courtThatIsShut() {
        CHECK.sentence("Of a COURT, what 0: its size (0: it is shut), 1: how many sit, 2: 1 if a SUIT is open, else 0");
        courtAnswers(BusyDay.begin(), 4, 0, 0, 0, -1, -1, -1, -1, -1, -1, -1, -1, -1, -1, -1, -1);
    }

    static void courtWithoutASuit() {
        CHECK.sentence("of that, or the latest one today");
        courtAnswers(BusyDay.begin(), 3, 3, 1, 0, -1, -1, -1, -1, -1, -1, -1, -1, -1, -1, -1, -1);
    }

    static void courtWithDiscsWanting() {
        CHECK.sentence("10: those that convict (as long as it is open, and DISCS are wanting: NONE)");
        LotMachine x = BusyDay.begin();
        courtAnswers(x, 0, 3, 3, 1, 0, 10, 11, 50, 6, 10, 0, -1, 0, -1, -1, -1);
        x.disc(0, 0, 1);
        x.disc(0, 1, 1);
        courtAnswers(x, 0, 3, 3, 1, 0, 10, 11, 50, 6, 10, 2, -1, 0, -1, -1, -1);
        x.disc(0, 2, 1);
        courtAnswers(x, 0, 3, 3, 1, 0, 10, 11, 50, 6, 10, 3, 3, 0, -1, -1, -1);
    }

    static void courtWithTheLastOneStruckOut() {
        CHECK.sentence("10: those that convict (as long as it is open, and DISCS are wanting: NONE)");
        LotMachine x = BusyDay.begin();
        x.disc(0, 0, 1);
        x.disc(0, 1, 0);
        CHECK.due("one is wanting", x.court(0, 10), -1);
        x.owe(2, 1, 0);
        courtAnswers(x, 0, 3, 3, 1, 0, 10, 11, 50, 6, 10, 2, 1, 1, -1, -1, -1);
    }

    static void courtWithAllStruckOut() {
        CHECK.sentence("9: DISCS that count so far, 10: those that convict");
        LotMachine x = BusyDay.begin();
        x.disc(0, 0, 1);
        for (int c = 0; c < 3; c++) {
            x.owe(c, 1, 0);
        }
        courtAnswers(x, 0, 3, 3, 1, 0, 10, 11, 50, 6, 10, 0, 0, 3, -1, -1, -1);
    }

    static void courtWithAClosedSuit() {
        CHECK.sentence("12: verdict (NONE), 13: who owes by it (NONE), 14: how much.");
        LotMachine x = BusyDay.begin();
        courtAnswers(x, 2, 1, 1, 0, 2, 10, 11, 0, 10, 10, 1, 1, 0, 1, -1, 0);
        courtAnswers(x, 1, 1, 1, 1, 1, 10, 11, 5, 10, 10, 1, 1, 0, -1, -1, -1);
        x.close(1);
        courtAnswers(x, 1, 1, 1, 0, 1, 10, 11, 5, 10, 10, 1, 1, 0, 1, 11, 5);
    }

    static void courtOfTheLatestSuit() {
        CHECK.sentence("of that, or the latest one today");
        LotMachine x = BusyDay.begin();
        x.close(1);
        x.suit(1, 5, 12, 0, 1000000);
        courtAnswers(x, 1, 1, 1, 1, 5, 12, 0, 1000000, 10, 10, 0, -1, 0, -1, -1, -1);
        x.owe(3, 1, 0);
        x.close(1);
        courtAnswers(x, 1, 1, 1, 0, 5, 12, 0, 1000000, 10, 10, 0, 0, 1, 0, -1, 0);
        x.suit(1, 5, 12, 0, 7);
        courtAnswers(x, 1, 1, 1, 1, 5, 12, 0, 7, 10, 10, 0, -1, 0, -1, -1, -1);
    }

    static void courtOfTodayAlone() {
        CHECK.sentence("of that, or the latest one today");
        LotMachine x = BusyDay.begin();
        x.now(4);
        for (int court = 0; court <= 4; court++) {
            courtAnswers(x, court, 0, 0, 0, -1, -1, -1, -1, -1, -1, -1, -1, -1, -1, -1, -1);
        }
        x.open(2, 1);
        courtAnswers(x, 2, 1, 0, 0, -1, -1, -1, -1, -1, -1, -1, -1, -1, -1, -1, -1);
    }

    // ---- promise 29: count

    static void countNoneForOthers() {
        CHECK.sentence("NONE for others.");
        LotMachine x = BusyDay.begin();
        for (int what : new int[] {-1, 9, 10, MIN, MAX}) {
            CHECK.due("count(" + what + ")", x.count(what), -1);
        }
    }

    static void countEach() {
        CHECK.sentence("What 0: CITIZENS, 1: the CLOCK's day, 2: those that came today, 3: CHOSEN, 4: those with a "
            + "LOT, 5: texts of laws, 6: bytes of THE TAPE, 7: SUITS CLOSED in all, 8: PAY in all.");
        LotMachine x = BusyDay.begin();
        int[] today = {15, 3, 11, 10, 6, 1, 3, 1, 4};
        int[] tomorrow = {15, 4, 0, 0, 0, 1, 3, 1, 4};
        for (int what = 0; what < today.length; what++) {
            CHECK.due("count(" + what + ")", x.count(what), today[what]);
        }
        x.now(4);
        for (int what = 0; what < tomorrow.length; what++) {
            CHECK.due("count(" + what + ") a day later", x.count(what), tomorrow[what]);
        }
    }

    static void countSuitsClosedInAll() {
        CHECK.sentence("7: SUITS CLOSED in all, 8: PAY in all.");
        LotMachine x = BusyDay.begin();
        x.close(1);
        CHECK.due("closed", x.count(7), 2);
        CHECK.due("pay", x.count(8), 8);
        x.close(0);
        CHECK.due("one that stays open", x.count(7), 2);
        x.now(4);
        for (int c = 0; c < 5; c++) {
            x.come(c);
        }
        x.draw(0, 1, 0);
        Courtroom.fill(x, 0, 1);
        x.suit(0, 0, BusyDay.ACCUSER, BusyDay.ACCUSED, 0);
        x.disc(0, 0, 0);
        x.close(0);
        CHECK.due("closed on both days", x.count(7), 3);
        CHECK.due("pay of both days", x.count(8), 12);
    }
}
