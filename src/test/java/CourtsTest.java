/** Promises 20 to 29: courts, lots, suits, discs, verdicts, and the counts of all. */
public final class CourtsTest {
    private static final Check CHECK = new Check("CourtsTest");
    private static final int ACCUSER = Courtroom.ACCUSER;
    private static final int ACCUSED = Courtroom.ACCUSED;
    private static final int FIRST_SEAT = Courtroom.FIRST_SEAT;

    public static void main(String[] args) {
        opening();
        lots();
        suitRange();
        suitState();
        waterOfTheLaws();
        speaking();
        witnesses();
        discs();
        closing();
        convictedOwes();
        nobodyOwesNothing();
        fifths();
        struckOut();
        struckOutBehindItsDisc();
        ties();
        allStruckOut();
        struckOutByAnotherVerdict();
        debtOutsideAnOpenSuit();
        fullDebt();
        lawsAtTheClose();
        aSecondSuit();
        suitsGoneWithTheDay();
        payInAll();
        countsAndUnknowns();
        CHECK.end();
    }

    private static void court(LotMachine x, String when, int... fromThree) {
        for (int i = 0; i < fromThree.length; i++) {
            CHECK.due(when + ": court(0, " + (i + 3) + ")", x.court(0, i + 3), fromThree[i]);
        }
    }

    private static void opening() {
        LotMachine x = new LotMachine();
        CHECK.due("open(-1, 3)", x.open(-1, 3), -2);
        CHECK.due("open(5, 3)", x.open(5, 3), -2);
        CHECK.due("open(0, 0)", x.open(0, 0), -2);
        CHECK.due("open(0, 2)", x.open(0, 2), -2);
        CHECK.due("open(0, -1)", x.open(0, -1), -2);
        CHECK.due("open(0, 27)", x.open(0, 27), -2);
        CHECK.due("court(0, 0)", x.court(0, 0), 0);
        CHECK.due("open(0, 1)", x.open(0, 1), 1);
        CHECK.due("open(4, 25)", x.open(4, 25), 25);
        CHECK.due("open(4, 25) again", x.open(4, 25), -4);
        CHECK.due("open(4, 24) again", x.open(4, 24), -2);
        CHECK.due("court(4, 0)", x.court(4, 0), 25);
        CHECK.due("court(4, 1)", x.court(4, 1), 0);
        CHECK.due("court(4, 2)", x.court(4, 2), 0);
    }

    private static void lots() {
        LotMachine x = Courtroom.withChosen(1);
        CHECK.due("lot(-1)", x.lot(-1), -2);
        CHECK.due("lot(5)", x.lot(5), -2);
        CHECK.due("lot(1) of a shut one", x.lot(1), -4);
        x.open(1, 3);
        x.open(3, 5);
        CHECK.due("lot(1)", x.lot(1), 4);
        CHECK.due("lot(3)", x.lot(3), 5);
        CHECK.due("lot(1)", x.lot(1), 6);
        CHECK.due("lot(1)", x.lot(1), 7);
        CHECK.due("lot(1) of a full one", x.lot(1), -4);
        CHECK.due("lot(3)", x.lot(3), 8);
        CHECK.due("lot(3), nobody is left", x.lot(3), -1);
        CHECK.due("lot(1), full comes ahead of nobody", x.lot(1), -4);
        CHECK.due("count(4)", x.count(4), 5);
        CHECK.due("seat(1, 1)", x.seat(1, 1), 6);
        CHECK.due("seat(1, 3)", x.seat(1, 3), -1);
        CHECK.due("seat(1, -1)", x.seat(1, -1), -1);
        CHECK.due("seat(3, 1)", x.seat(3, 1), 8);
        CHECK.due("seat(3, 2)", x.seat(3, 2), -1);
        CHECK.due("seat(-1, 0)", x.seat(-1, 0), -1);
        CHECK.due("seat(5, 0)", x.seat(5, 0), -1);
        CHECK.due("court(3, 1)", x.court(3, 1), 2);
        CHECK.due("about(8, 8)", x.about(8, 8), 3);
        CHECK.due("about(4, 8)", x.about(4, 8), 1);
        CHECK.due("about(0, 8)", x.about(0, 8), -1);
        Check.rowsCome(x, 1, 1);
        x.draw(1, 1, 0);
        CHECK.due("lot(3) of a later draw", x.lot(3), 9);
    }

    private static void suitRange() {
        LotMachine x = Courtroom.withCourt(3);
        CHECK.due("court -1", x.suit(-1, 0, 0, 1, 0), -2);
        CHECK.due("court 5", x.suit(5, 0, 0, 1, 0), -2);
        CHECK.due("kind -1", x.suit(0, -1, 0, 1, 0), -2);
        CHECK.due("kind 6", x.suit(0, 6, 0, 1, 0), -2);
        CHECK.due("accuser -1", x.suit(0, 0, -1, 1, 0), -2);
        CHECK.due("accuser 9", x.suit(0, 0, 9, 1, 0), -2);
        CHECK.due("accused -1", x.suit(0, 0, 0, -1, 0), -2);
        CHECK.due("accused 9", x.suit(0, 0, 0, 9, 0), -2);
        CHECK.due("one and the same", x.suit(0, 0, 1, 1, 0), -2);
        CHECK.due("accuser sits", x.suit(0, 0, 4, 1, 0), -2);
        CHECK.due("accused sits", x.suit(0, 0, 0, 6, 0), -2);
        CHECK.due("sum -1", x.suit(0, 0, 0, 1, -1), -2);
        CHECK.due("sum 1000001", x.suit(0, 0, 0, 1, 1000001), -2);
        CHECK.due("no suit began", x.court(0, 2), 0);
        CHECK.due("chosen ones who don't sit there", x.suit(0, 5, 7, 8, 1000000), 10);
    }

    private static void suitState() {
        LotMachine x = Courtroom.withChosen(1);
        CHECK.due("a shut court", x.suit(0, 0, 0, 1, 0), -4);
        x.open(0, 3);
        x.lot(0);
        x.lot(0);
        CHECK.due("a court not full", x.suit(0, 0, 0, 1, 0), -4);
        CHECK.due("RANGE ahead of STATE", x.suit(0, 0, 4, 1, 0), -2);
        x.lot(0);
        court(x, "without a suit", -1, -1, -1, -1, -1, -1, -1, -1, -1, -1, -1, -1, -1);
        CHECK.due("a full court", x.suit(0, 4, 0, 1, 30), 10);
        CHECK.due("with one that is open", x.suit(0, 4, 0, 1, 30), -4);
        CHECK.due("court(0, 2)", x.court(0, 2), 1);
        court(x, "begun", 4, 0, 1, 30, 10, 10, 0, -1, 0, -1, -1, -1, -1);
    }

    private static void waterOfTheLaws() {
        LotMachine x = Courtroom.withCourt(1);
        Check.tell(x, "suit 2 water 7 over 100 water 2000 fine 0; suit 3 water 0 fine 0;", 0);
        Check.tell(x, "suit 2 water 1 fine 0;", 1);
        int[][] runs = {{2, 100, 7}, {2, 101, 2000}, {2, 0, 7}, {3, 1000000, 0}, {1, 1000000, 10}};
        for (int[] run : runs) {
            CHECK.due("water of " + run[0] + " at " + run[1], x.suit(0, run[0], 0, 1, run[1]), run[2]);
            CHECK.due("accuser's water", x.court(0, 7), run[2]);
            CHECK.due("accused's water", x.court(0, 8), run[2]);
            x.disc(0, 4, 0);
            x.close(0);
        }
        x.suit(0, 2, 0, 1, 500);
        CHECK.due("1000 minutes", x.speak(0, 0, 1000), 1000);
        Check.tell(x, "", 0);
        CHECK.due("water stays as the suit began", x.speak(0, 0, 999), 1);
    }

    private static void speaking() {
        LotMachine x = Courtroom.withCourt(1);
        CHECK.due("no suit", x.speak(0, 0, 1), -4);
        x.suit(0, 0, ACCUSER, ACCUSED, 0);
        CHECK.due("court -1", x.speak(-1, 0, 1), -2);
        CHECK.due("court 5", x.speak(5, 0, 1), -2);
        CHECK.due("side -1", x.speak(0, -1, 1), -2);
        CHECK.due("side 2", x.speak(0, 2, 1), -2);
        CHECK.due("minutes 0", x.speak(0, 0, 0), -2);
        CHECK.due("minutes -1", x.speak(0, 0, -1), -2);
        CHECK.due("minutes 1001", x.speak(0, 0, 1001), -2);
        CHECK.due("accused first", x.speak(0, 1, 1), -4);
        CHECK.due("accuser, too long", x.speak(0, 0, 11), -4);
        CHECK.due("accused still first", x.speak(0, 1, 1), -4);
        CHECK.due("accuser 1", x.speak(0, 0, 1), 9);
        CHECK.due("accuser 2", x.speak(0, 0, 2), 7);
        CHECK.due("accused 10", x.speak(0, 1, 10), 0);
        CHECK.due("accused has none left", x.speak(0, 1, 1), -4);
        CHECK.due("accuser once more", x.speak(0, 0, 7), 0);
        CHECK.due("court(0, 7)", x.court(0, 7), 0);
        CHECK.due("court(0, 8)", x.court(0, 8), 0);
        CHECK.due("another court", x.speak(1, 0, 1), -4);
    }

    private static void witnesses() {
        LotMachine x = Courtroom.withCourt(3);
        CHECK.due("witness(-1)", x.witness(-1), -2);
        CHECK.due("witness(5)", x.witness(5), -2);
        CHECK.due("no suit", x.witness(0), -4);
        x.suit(0, 0, ACCUSER, ACCUSED, 0);
        CHECK.due("begins", x.witness(0), 1);
        CHECK.due("speak meanwhile", x.speak(0, 0, 1), -4);
        CHECK.due("disc meanwhile", x.disc(0, 4, 1), -4);
        CHECK.due("its water stands", x.court(0, 7), 10);
        CHECK.due("ends", x.witness(0), 0);
        CHECK.due("speak", x.speak(0, 0, 1), 9);
        CHECK.due("disc", x.disc(0, 4, 1), 2);
        CHECK.due("behind the first disc", x.witness(0), -4);
        x.owe(4, 1, 0);
        CHECK.due("a disc was told, though it counts no more", x.witness(0), -4);
        CHECK.due("nobody speaks either", x.speak(0, 0, 1), -4);
        x.disc(0, 5, 0);
        x.disc(0, 6, 0);
        x.close(0);
        CHECK.due("closed", x.witness(0), -4);
        x.suit(0, 0, ACCUSER, ACCUSED, 0);
        CHECK.due("a new suit", x.witness(0), 1);
    }

    private static void discs() {
        LotMachine x = Courtroom.withCourt(3);
        CHECK.due("no suit", x.disc(0, 4, 1), -4);
        x.suit(0, 0, ACCUSER, ACCUSED, 0);
        CHECK.due("court -1", x.disc(-1, 4, 1), -2);
        CHECK.due("court 5", x.disc(5, 4, 1), -2);
        CHECK.due("disc -1", x.disc(0, 4, -1), -2);
        CHECK.due("disc 2", x.disc(0, 4, 2), -2);
        CHECK.due("disc 2 of one who doesn't sit", x.disc(0, 0, 2), -2);
        CHECK.due("chosen, without a lot", x.disc(0, 7, 1), -4);
        CHECK.due("citizen -1", x.disc(0, -1, 1), -4);
        CHECK.due("citizen 150", x.disc(0, 150, 1), -4);
        CHECK.due("the last seat first", x.disc(0, 6, 1), 2);
        CHECK.due("told already", x.disc(0, 6, 0), -4);
        court(x, "one disc", 0, 0, 1, 0, 10, 10, 1, -1, 0, -1, -1, -1);
        CHECK.due("the first", x.disc(0, 4, 0), 1);
        CHECK.due("the second", x.disc(0, 5, 1), 0);
        court(x, "all discs", 0, 0, 1, 0, 10, 10, 3, 2, 0, -1, -1, -1);
    }

    private static void closing() {
        LotMachine x = Courtroom.withCourt(3);
        CHECK.due("close(-1)", x.close(-1), -2);
        CHECK.due("close(5)", x.close(5), -2);
        CHECK.due("none is open", x.close(0), -4);
        x.suit(0, 0, ACCUSER, ACCUSED, 10);
        CHECK.due("all are wanting", x.close(0), -4);
        Courtroom.tellDiscs(x, 2, 2);
        CHECK.due("one is wanting", x.close(0), -4);
        x.disc(0, 6, 0);
        CHECK.due("close", x.close(0), 1);
        CHECK.due("close again", x.close(0), -4);
        CHECK.due("court(0, 2)", x.court(0, 2), 0);
        court(x, "closed", 0, 0, 1, 10, 10, 10, 3, 2, 0, 1, 1, 10, -1);
        CHECK.due("disc of a closed one", x.disc(0, 4, 1), -4);
        CHECK.due("speak in a closed one", x.speak(0, 0, 1), -4);
        x.owe(4, 1, 0);
        CHECK.due("nobody is struck out of a closed one", x.court(0, 11), 0);
        CHECK.due("its discs stay", x.court(0, 9), 3);
    }

    private static void convictedOwes() {
        LotMachine x = Courtroom.withCourt(1);
        Check.tell(x, "suit 3 water 1 fine 70; pay 0;", 0);
        x.suit(0, 3, ACCUSER, ACCUSED, 1000);
        x.disc(0, 4, 1);
        CHECK.due("convicted", x.close(0), 1);
        court(x, "convicted", 3, 0, 1, 1000, 1, 1, 1, 1, 0, 1, 1, 1070);
        CHECK.due("accused owes", x.about(ACCUSED, 4), 1070);
        CHECK.due("accuser owes nothing", x.about(ACCUSER, 4), 0);
        CHECK.due("pay 0", x.about(4, 9), 0);
        x.suit(0, 0, ACCUSER, ACCUSED, 0);
        x.disc(0, 4, 1);
        CHECK.due("convicted without fine and sum", x.close(0), 1);
        CHECK.due("nobody owes by it", x.court(0, 13), -1);
        CHECK.due("nothing", x.court(0, 14), 0);
        CHECK.due("accused owes as before", x.about(ACCUSED, 4), 1070);
        x.suit(0, 0, ACCUSER, ACCUSED, 1);
        x.disc(0, 4, 1);
        x.close(0);
        court(x, "a sum without fine", 0, 0, 1, 1, 10, 10, 1, 1, 0, 1, ACCUSED, 1);
        x.suit(0, 3, ACCUSER, ACCUSED, 0);
        x.disc(0, 4, 1);
        x.close(0);
        court(x, "a fine without sum", 3, 0, 1, 0, 1, 1, 1, 1, 0, 1, ACCUSED, 70);
    }

    /** A verdict by which 0 is owed names nobody, of whatever it was made, and is never too much. */
    private static void nobodyOwesNothing() {
        LotMachine x = Courtroom.withCourt(1);
        Check.tell(x, "suit 3 water 1 fine 0; fifth 0; tie convict;", 0);
        x.owe(ACCUSED, 1000000000, 0);
        x.owe(ACCUSED, 1000000000, 0);
        x.suit(0, 3, ACCUSER, ACCUSED, 0);
        x.disc(0, 4, 1);
        CHECK.due("convicted", x.close(0), 1);
        court(x, "a fine told as 0", 3, 0, 1, 0, 1, 1, 1, 1, 0, 1, -1, 0);
        CHECK.due("owes as before", x.about(ACCUSED, 4), 2000000000);
        x.suit(0, 3, ACCUSED, ACCUSER, 10);
        x.disc(0, 4, 0);
        CHECK.due("acquitted", x.close(0), 0);
        court(x, "a fifth told as 0", 3, 1, 0, 10, 1, 1, 1, 0, 0, 0, -1, 0);
        CHECK.due("owes as before", x.about(ACCUSED, 4), 2000000000);
        x.suit(0, 3, ACCUSER, 2, 0);
        x.owe(4, 1, 0);
        CHECK.due("a tie of none", x.close(0), 1);
        court(x, "convicted by a tie", 3, 0, 2, 0, 1, 1, 0, 0, 1, 1, -1, 0);
        Check.tell(x, "fifth 1;", 0);
        x.suit(0, 3, ACCUSER, 2, 10);
        x.disc(0, 4, 0);
        x.close(0);
        court(x, "a fifth told as 1", 3, 0, 2, 10, 10, 10, 1, 0, 0, 0, ACCUSER, 1);
    }

    /** The accuser owes with less than a fifth of the discs: one of five is a fifth, one of seven is less. */
    private static void fifths() {
        int[][] runs = {{5, 0, 1}, {5, 1, 0}, {7, 1, 1}, {7, 2, 0}, {25, 4, 1}, {25, 5, 0}, {25, 12, 0}, {1, 0, 1}};
        for (int[] run : runs) {
            LotMachine x = Courtroom.withCourt(run[0]);
            x.suit(0, 0, ACCUSER, ACCUSED, 10);
            Courtroom.tellDiscs(x, run[0], run[1]);
            String of = run[1] + " of " + run[0];
            CHECK.due(of, x.close(0), 0);
            CHECK.due(of + ": verdict", x.court(0, 12), 0);
            CHECK.due(of + ": who owes", x.court(0, 13), run[2] == 1 ? ACCUSER : -1);
            CHECK.due(of + ": how much", x.court(0, 14), run[2] == 1 ? 1000 : 0);
            CHECK.due(of + ": accuser owes", x.about(ACCUSER, 4), run[2] * 1000);
            CHECK.due(of + ": accused owes", x.about(ACCUSED, 4), 0);
        }
        LotMachine x = Courtroom.withCourt(25);
        x.suit(0, 0, ACCUSER, ACCUSED, 10);
        Courtroom.tellDiscs(x, 25, 13);
        CHECK.due("13 of 25", x.close(0), 1);
        LotMachine y = Courtroom.withCourt(1);
        Check.tell(y, "fifth 0;", 0);
        y.suit(0, 0, ACCUSER, ACCUSED, 10);
        y.disc(0, 4, 0);
        y.close(0);
        CHECK.due("nobody owes by fifth 0", y.court(0, 13), -1);
        CHECK.due("nothing", y.court(0, 14), 0);
        CHECK.due("may sit", y.about(ACCUSER, 5), 1);
    }

    private static void struckOut() {
        LotMachine x = Courtroom.withCourt(5);
        x.suit(0, 0, ACCUSER, ACCUSED, 10);
        CHECK.due("owe", x.owe(4, 5, 0), 5);
        CHECK.due("struck out", x.court(0, 11), 1);
        x.owe(4, 5, 0);
        CHECK.due("struck out once", x.court(0, 11), 1);
        x.owe(8, 2000000000, 0);
        CHECK.due("not by a RANGE", x.court(0, 11), 1);
        x.pay(4, 10);
        CHECK.due("its disc, though paid", x.disc(0, 4, 1), -4);
        x.owe(ACCUSER, 1, 0);
        CHECK.due("not one that doesn't sit", x.court(0, 11), 1);
        CHECK.due("disc", x.disc(0, 5, 1), 3);
        x.disc(0, 6, 1);
        x.disc(0, 7, 0);
        CHECK.due("the last", x.disc(0, 8, 0), 0);
        CHECK.due("a tie acquits", x.close(0), 0);
        CHECK.due("nobody owes", x.court(0, 13), -1);
        CHECK.due("nothing is owed by a verdict that stands", x.court(0, 14), 0);
        CHECK.due("no pay", x.about(4, 9), 0);
        CHECK.due("pay", x.about(8, 9), 3);
        CHECK.due("pay in all", x.count(8), 12);
        LotMachine y = new LotMachine();
        Check.rowsCome(y, 0, 1);
        int accuser = Check.sworn(y, 1, 0);
        int accused = Check.sworn(y, 1, 0);
        y.now(9);
        for (int i = 0; i < 5; i++) {
            y.come(i);
        }
        y.draw(0, 1, 0);
        Courtroom.fill(y, 0, 5);
        y.suit(0, 0, accuser, accused, 0);
        y.owe(0, 1, 9);
        y.owe(1, 1, 8);
        y.owe(2, 1, 10);
        CHECK.due("debts of today and of a day ahead", y.court(0, 11), 2);
    }

    private static void struckOutBehindItsDisc() {
        LotMachine x = Courtroom.withCourt(3);
        x.suit(0, 0, ACCUSER, ACCUSED, 10);
        Courtroom.tellDiscs(x, 3, 2);
        CHECK.due("two of three", x.court(0, 10), 2);
        x.owe(4, 1, 0);
        CHECK.due("count", x.court(0, 9), 2);
        CHECK.due("convict", x.court(0, 10), 1);
        CHECK.due("struck out", x.court(0, 11), 1);
        CHECK.due("a tie acquits", x.close(0), 0);
        CHECK.due("convict, closed", x.court(0, 10), 1);
        CHECK.due("no pay", x.about(4, 9), 0);
        CHECK.due("pay in all", x.count(8), 6);
    }

    private static void ties() {
        LotMachine x = Courtroom.withCourt(3);
        Check.tell(x, "tie convict;", 0);
        x.suit(0, 0, ACCUSER, ACCUSED, 10);
        Courtroom.tellDiscs(x, 3, 2);
        x.owe(4, 1, 0);
        CHECK.due("a tie convicts", x.close(0), 1);
        CHECK.due("the accused owes", x.about(ACCUSED, 4), 10);
        x.suit(0, 0, ACCUSER, ACCUSED, 10);
        Courtroom.tellDiscs(x, 3, 1);
        CHECK.due("less than half acquits", x.close(0), 0);
    }

    private static void allStruckOut() {
        for (int tie = 0; tie <= 1; tie++) {
            LotMachine x = Courtroom.withCourt(1);
            Check.tell(x, tie == 1 ? "tie convict;" : "tie acquit;", 0);
            x.suit(0, 0, ACCUSER, ACCUSED, 10);
            x.witness(0);
            x.owe(4, 1, 0);
            CHECK.due("none is wanting", x.court(0, 10), 0);
            CHECK.due("none of none is half", x.close(0), tie);
            CHECK.due("who owes", x.court(0, 13), tie == 1 ? ACCUSED : -1);
            CHECK.due("how much", x.court(0, 14), tie == 1 ? 10 : 0);
            CHECK.due("pay in all", x.count(8), 0);
            CHECK.due("closed in all", x.count(7), 1);
            x.suit(0, 0, ACCUSER, ACCUSED, 10);
            CHECK.due("no witness is heard in a new suit", x.speak(0, 0, 1), 9);
            CHECK.due("no verdict of a new suit, so no sum", x.court(0, 14), -1);
        }
    }

    private static void struckOutByAnotherVerdict() {
        LotMachine x = Courtroom.withChosen(1);
        Courtroom.fill(x, 0, 1);
        Courtroom.fill(x, 1, 3);
        x.suit(1, 0, ACCUSER, ACCUSED, 0);
        x.suit(0, 0, ACCUSER, 5, 0);
        x.disc(0, 4, 1);
        x.close(0);
        CHECK.due("a verdict of nothing is no debt", x.court(1, 11), 0);
        x.suit(0, 0, ACCUSER, 5, 20);
        x.disc(0, 4, 1);
        x.close(0);
        CHECK.due("the debt of a verdict strikes out", x.court(1, 11), 1);
        CHECK.due("its disc", x.disc(1, 5, 0), -4);
        x.suit(0, 0, 6, ACCUSED, 20);
        x.disc(0, 4, 0);
        x.close(0);
        CHECK.due("a fifth strikes out", x.court(1, 11), 2);
        CHECK.due("one is wanting", x.disc(1, 7, 0), 0);
    }

    private static void debtOutsideAnOpenSuit() {
        LotMachine x = Courtroom.withCourt(3);
        x.owe(4, 1, 0);
        x.suit(0, 0, ACCUSER, ACCUSED, 0);
        CHECK.due("told ahead of the suit", x.court(0, 11), 0);
        CHECK.due("its disc", x.disc(0, 4, 0), 2);
        x.owe(4, 1, 0);
        CHECK.due("told in the suit", x.court(0, 11), 1);
        x.disc(0, 5, 0);
        x.disc(0, 6, 0);
        x.close(0);
        CHECK.due("as long as it is the latest", x.court(0, 11), 1);
        x.suit(0, 0, ACCUSER, ACCUSED, 0);
        CHECK.due("a new suit", x.court(0, 11), 0);
        CHECK.due("its disc in a new suit", x.disc(0, 4, 1), 2);
    }

    private static void fullDebt() {
        LotMachine x = Courtroom.withCourt(1);
        x.suit(0, 0, ACCUSER, ACCUSED, 10);
        x.disc(0, 4, 1);
        x.owe(ACCUSED, 1000000000, 0);
        x.owe(ACCUSED, 999999991, 0);
        CHECK.due("one too much", x.close(0), -3);
        CHECK.due("it stays open", x.court(0, 2), 1);
        court(x, "open still", 0, 0, 1, 10, 10, 10, 1, 1, 0, -1, -1, -1);
        CHECK.due("owes as before", x.about(ACCUSED, 4), 1999999991);
        CHECK.due("no pay", x.count(8), 0);
        CHECK.due("none is closed", x.count(7), 0);
        x.pay(ACCUSED, 1);
        CHECK.due("just enough", x.close(0), 1);
        CHECK.due("owes", x.about(ACCUSED, 4), 2000000000);
        x.suit(0, 0, ACCUSED, ACCUSER, 10);
        x.disc(0, 4, 0);
        CHECK.due("a fifth too much", x.close(0), -3);
        x.pay(ACCUSED, 1000);
        CHECK.due("a fifth", x.close(0), 0);
        CHECK.due("owes", x.about(ACCUSED, 4), 2000000000);
    }

    private static void lawsAtTheClose() {
        LotMachine x = Courtroom.withCourt(1);
        Check.tell(x, "suit 0 water 5 fine 1; pay 1;", 0);
        x.suit(0, 0, ACCUSER, ACCUSED, 0);
        x.disc(0, 4, 1);
        Check.tell(x, "suit 0 water 5 fine 2; pay 2;", 0);
        Check.tell(x, "suit 0 water 5 fine 3; pay 3;", 1);
        x.close(0);
        CHECK.due("fine in force on the clock's day", x.court(0, 14), 2);
        CHECK.due("pay in force on the clock's day", x.about(4, 9), 2);
    }

    private static void aSecondSuit() {
        LotMachine x = Courtroom.withCourt(1);
        x.suit(0, 1, ACCUSER, ACCUSED, 10);
        x.speak(0, 0, 3);
        x.disc(0, 4, 1);
        x.close(0);
        CHECK.due("begins", x.suit(0, 2, 2, 3, 11), 10);
        CHECK.due("court(0, 2)", x.court(0, 2), 1);
        court(x, "second", 2, 2, 3, 11, 10, 10, 0, -1, 0, -1, -1, -1);
        CHECK.due("the accuser's first words again", x.speak(0, 1, 1), -4);
        CHECK.due("speak", x.speak(0, 0, 1), 9);
        x.disc(0, 4, 0);
        CHECK.due("acquitted", x.close(0), 0);
        CHECK.due("count(7)", x.count(7), 2);
        CHECK.due("pay of both", x.about(4, 9), 6);
    }

    private static void suitsGoneWithTheDay() {
        LotMachine x = Courtroom.withCourt(1);
        x.suit(0, 1, ACCUSER, ACCUSED, 10);
        x.disc(0, 4, 1);
        x.now(1);
        CHECK.due("court(0, 0)", x.court(0, 0), 0);
        CHECK.due("court(0, 1)", x.court(0, 1), 0);
        CHECK.due("court(0, 2)", x.court(0, 2), 0);
        court(x, "gone", -1, -1, -1, -1, -1, -1, -1, -1, -1, -1, -1, -1);
        CHECK.due("close", x.close(0), -4);
        CHECK.due("disc", x.disc(0, 4, 1), -4);
        CHECK.due("count(7)", x.count(7), 0);
        for (int c = FIRST_SEAT; c < 9; c++) {
            x.come(c);
        }
        x.draw(0, 1, 0);
        Courtroom.fill(x, 0, 1);
        court(x, "without one today", -1, -1, -1, -1, -1, -1, -1, -1, -1, -1, -1, -1);
        x.suit(0, 1, ACCUSER, ACCUSED, 10);
        CHECK.due("its disc today", x.disc(0, 4, 0), 0);
        CHECK.due("close", x.close(0), 0);
        x.now(2);
        CHECK.due("closed ones are still counted", x.count(7), 1);
        CHECK.due("pay in all", x.count(8), 3);
        CHECK.due("about(4, 9)", x.about(4, 9), 3);
    }

    private static void payInAll() {
        LotMachine x = Courtroom.withChosen(2);
        Check.tell(x, "pay 99999;", 0);
        Courtroom.fill(x, 2, 3);
        Courtroom.fill(x, 4, 5);
        x.suit(2, 0, ACCUSER, ACCUSED, 0);
        x.suit(4, 0, ACCUSER, ACCUSED, 0);
        for (int c = 4; c < 12; c++) {
            CHECK.due("disc of " + c, x.disc(c < 7 ? 2 : 4, c, 1), c < 7 ? 6 - c : 11 - c);
        }
        x.close(4);
        CHECK.due("pay of five", x.count(8), 5 * 99999);
        CHECK.due("not yet", x.about(4, 9), 0);
        x.close(2);
        CHECK.due("pay of eight", x.count(8), 8 * 99999);
        CHECK.due("about(4, 9)", x.about(4, 9), 99999);
        CHECK.due("about(0, 9)", x.about(0, 9), 0);
        CHECK.due("count(7)", x.count(7), 2);
    }

    private static void countsAndUnknowns() {
        LotMachine x = Courtroom.withCourt(3);
        Check.write(x, "age");
        int[] want = {9, 0, 5, 5, 3, 0, 3, 0, 0};
        for (int what = 0; what < want.length; what++) {
            CHECK.due("count(" + what + ")", x.count(what), want[what]);
        }
        CHECK.due("count(-1)", x.count(-1), -1);
        CHECK.due("count(9)", x.count(9), -1);
        x.suit(0, 0, ACCUSER, ACCUSED, 0);
        CHECK.due("court(0, -1)", x.court(0, -1), -1);
        CHECK.due("court(0, 15)", x.court(0, 15), -1);
        CHECK.due("court(-1, 0)", x.court(-1, 0), -1);
        CHECK.due("court(5, 0)", x.court(5, 0), -1);
    }
}
