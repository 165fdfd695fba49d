/** Promises 1 to 6 and the terms of LAWS: each sentence that names an edge has a test of its own. */
public final class LawsEdgesTest {
    private static final Check CHECK = new Check("LawsEdgesTest");
    private static final int MIN = Integer.MIN_VALUE;
    private static final int MAX = Integer.MAX_VALUE;

    public static void main(String[] args) {
        CHECK.runEach(LawsEdgesTest.class);
        CHECK.end();
    }

    /** The text is sound: what laws() made of it can be asked of what comes back. */
    private static LotMachine sound(String text) {
        LotMachine x = new LotMachine();
        CHECK.due("laws(0) of [" + text + "]", Check.tell(x, text, 0), 0);
        CHECK.due("fault(0) of [" + text + "]", x.fault(0), 0);
        CHECK.due("fault(1) of [" + text + "]", x.fault(1), -1);
        return x;
    }

    private static void faulty(String text, int kind, int place) {
        LotMachine x = new LotMachine();
        CHECK.due("laws(0) of [" + text + "]", Check.tell(x, text, 0), -1);
        CHECK.due("fault(0) of [" + text + "]", x.fault(0), kind);
        CHECK.due("fault(1) of [" + text + "]", x.fault(1), place);
    }

    private static String blanks(int count) {
        return " ".repeat(count);
    }

    private static LotMachine withFullBook() {
        LotMachine x = new LotMachine();
        for (int i = 0; i < 15; i++) {
            CHECK.due("text " + i, Check.tell(x, "pay " + (i + 10) + ";", 0), i);
        }
        return x;
    }

    private static LotMachine withFullTape() {
        LotMachine x = new LotMachine();
        for (int i = 1; i <= 50; i++) {
            CHECK.due("feed " + i, x.feed(0x20202020, 0x20202020, 0x20202020, 0x20202020, 0x20202020), 20 * i);
        }
        return x;
    }

    // ---- promise 1: a new object

    static void newNobodyOnTheRoll() {
        CHECK.sentence("Nobody on the roll, no laws, day 0.");
        LotMachine x = new LotMachine();
        CHECK.due("count(0)", x.count(0), 0);
        CHECK.due("swear(0)", x.swear(0), -2);
        CHECK.due("owe(0, 1, 0)", x.owe(0, 1, 0), -2);
        CHECK.due("pay(0, 1)", x.pay(0, 1), -2);
        CHECK.due("come(0)", x.come(0), -2);
        CHECK.due("chances(0, 0)", x.chances(0, 0), -2);
        for (int what = 0; what <= 9; what++) {
            CHECK.due("about(0, " + what + ")", x.about(0, what), -1);
        }
    }

    static void newNoLaws() {
        CHECK.sentence("Nobody on the roll, no laws, day 0.");
        LotMachine x = new LotMachine();
        CHECK.due("count(5)", x.count(5), 0);
        CHECK.due("law(0, 50)", x.law(0, 50), -1);
        CHECK.due("law(20000, 50)", x.law(20000, 50), -1);
        CHECK.due("count(6)", x.count(6), 0);
    }

    static void newDayZero() {
        CHECK.sentence("Nobody on the roll, no laws, day 0.");
        LotMachine x = new LotMachine();
        CHECK.due("count(1)", x.count(1), 0);
        CHECK.due("now(0)", x.now(0), -2);
        CHECK.due("now(1)", x.now(1), 1);
    }

    static void newNothingElse() {
        CHECK.sentence("Nobody on the roll, no laws, day 0.");
        LotMachine x = new LotMachine();
        for (int what = 0; what <= 8; what++) {
            CHECK.due("count(" + what + ")", x.count(what), 0);
        }
        CHECK.due("chosen(0)", x.chosen(0), -1);
        for (int tribe = 0; tribe < 10; tribe++) {
            CHECK.due("rows(" + tribe + ")", x.rows(tribe), 0);
        }
        for (int court = 0; court < 5; court++) {
            CHECK.due("seat(" + court + ", 0)", x.seat(court, 0), -1);
            for (int what = 0; what <= 14; what++) {
                CHECK.due("court(" + court + ", " + what + ")", x.court(court, what), what < 3 ? 0 : -1);
            }
        }
    }

    static void newOnesAreApart() {
        CHECK.sentence("Nobody on the roll, no laws, day 0.");
        LotMachine x = BusyDay.begin();
        LotMachine y = new LotMachine();
        for (int what = 0; what <= 8; what++) {
            CHECK.due("count(" + what + ") beside a busy one", y.count(what), 0);
        }
        CHECK.due("law(3, 1) beside a busy one", y.law(3, 1), 3);
        CHECK.due("law(3, 1) of the busy one", x.law(3, 1), 4);
    }

    static void fiveHundredTwelveCalls() {
        CHECK.sentence("An object is used for at most 512 calls after it has been made");
        LotMachine x = new LotMachine();
        for (int i = 1; i <= 510; i++) {
            x.now(i);
        }
        CHECK.due("the 511th call", x.now(511), 511);
        CHECK.due("the 512th call", x.count(1), 511);
    }

    // ---- promise 2: feed

    static void feedHighestByteFirst() {
        CHECK.sentence("Twenty bytes come behind THE TAPE, the highest of each int first");
        LotMachine x = new LotMachine();
        CHECK.due("feed", x.feed(0x61676520, 0x3432373b, 0x70617920, 0x393b2020, 0x2020200a), 20);
        CHECK.due("laws(0)", x.laws(0), 0);
        CHECK.due("age", x.law(0, 0), 427);
        CHECK.due("pay", x.law(0, 1), 9);
    }

    static void feedEachOfTwentyBytes() {
        CHECK.sentence("Twenty bytes come behind THE TAPE, the highest of each int first");
        for (int place = 0; place < 20; place++) {
            int[] ints = {0x20202020, 0x20202020, 0x20202020, 0x20202020, 0x20202020};
            int shift = 24 - place % 4 * 8;
            ints[place / 4] = ints[place / 4] & ~(255 << shift) | 128 << shift;
            LotMachine x = new LotMachine();
            x.feed(ints[0], ints[1], ints[2], ints[3], ints[4]);
            CHECK.due("laws(0)", x.laws(0), -1);
            CHECK.due("place of the byte " + place, x.fault(1), place);
        }
    }

    static void feedBehindTheTape() {
        CHECK.sentence("Twenty bytes come behind THE TAPE, the highest of each int first: how many it has");
        LotMachine x = new LotMachine();
        Check.write(x, "age 1");
        CHECK.due("feed", x.feed(0x323b2020, 0x20202020, 0x20202020, 0x20202020, 0x20202020), 25);
        CHECK.due("laws(0)", x.laws(0), 0);
        CHECK.due("law(0, 0)", x.law(0, 0), 12);
    }

    static void feedToAThousand() {
        CHECK.sentence("FULL when there would be more than 1000.");
        LotMachine x = withFullTape();
        CHECK.due("count(6)", x.count(6), 1000);
    }

    static void feedBeyondAThousand() {
        CHECK.sentence("FULL when there would be more than 1000.");
        LotMachine x = withFullTape();
        CHECK.due("feed of a full tape", x.feed(-1, -1, -1, -1, -1), -3);
        CHECK.due("count(6)", x.count(6), 1000);
        CHECK.due("its bytes are as they were", x.laws(0), 0);
    }

    static void feedOneByteTooMuch() {
        CHECK.sentence("FULL when there would be more than 1000.");
        LotMachine x = withFullTape();
        x.end(981);
        CHECK.due("feed to 1001", x.feed(-1, -1, -1, -1, -1), -3);
        CHECK.due("count(6)", x.count(6), 981);
        CHECK.due("its bytes are as they were", x.laws(0), 0);
    }

    static void feedJustEnough() {
        CHECK.sentence("FULL when there would be more than 1000.");
        LotMachine x = withFullTape();
        x.end(980);
        CHECK.due("feed to 1000", x.feed(0x20202020, 0x20202020, 0x20202020, 0x20202020, 0x202020ff), 1000);
        CHECK.due("laws(0)", x.laws(0), -1);
        CHECK.due("the last byte's place", x.fault(1), 999);
    }

    static void feedBehindAnEmptiedTape() {
        CHECK.sentence("FULL when there would be more than 1000.");
        LotMachine x = withFullTape();
        x.laws(0);
        CHECK.due("feed", x.feed(0, 0, 0, 0, 0), 20);
    }

    // ---- promise 3: end

    static void endFirstBytesAlone() {
        CHECK.sentence("THE TAPE has its first n bytes alone: n");
        LotMachine x = new LotMachine();
        Check.write(x, "age 12345;");
        CHECK.due("end(6)", x.end(6), 6);
        CHECK.due("count(6)", x.count(6), 6);
        Check.write(x, ";");
        CHECK.due("laws(0)", x.laws(0), 0);
        CHECK.due("law(0, 0)", x.law(0, 0), 12);
    }

    static void endOfAll() {
        CHECK.sentence("THE TAPE has its first n bytes alone: n");
        LotMachine x = new LotMachine();
        x.feed(0, 0, 0, 0, 0);
        CHECK.due("end(20) of 20", x.end(20), 20);
        CHECK.due("count(6)", x.count(6), 20);
    }

    static void endOfNone() {
        CHECK.sentence("THE TAPE has its first n bytes alone: n");
        LotMachine x = new LotMachine();
        CHECK.due("end(0) of an empty tape", x.end(0), 0);
        x.feed(-1, -1, -1, -1, -1);
        CHECK.due("end(0)", x.end(0), 0);
        CHECK.due("count(6)", x.count(6), 0);
        CHECK.due("laws(0) of the empty text", x.laws(0), 0);
    }

    static void endNotSoMany() {
        CHECK.sentence("NONE when it has not so many, or n is below 0.");
        CHECK.due("end(1) of an empty tape", new LotMachine().end(1), -1);
        BusyDay.refuses(CHECK, "end(4) of 3", x -> x.end(4), -1);
        BusyDay.refuses(CHECK, "end(1000) of 3", x -> x.end(1000), -1);
        BusyDay.refuses(CHECK, "end(MAX)", x -> x.end(MAX), -1);
    }

    static void endBelowZero() {
        CHECK.sentence("NONE when it has not so many, or n is below 0.");
        CHECK.due("end(-1) of an empty tape", new LotMachine().end(-1), -1);
        BusyDay.refuses(CHECK, "end(-1)", x -> x.end(-1), -1);
        BusyDay.refuses(CHECK, "end(MIN)", x -> x.end(MIN), -1);
    }

    static void endBeyondAThousand() {
        CHECK.sentence("NONE when it has not so many, or n is below 0.");
        LotMachine x = withFullTape();
        CHECK.due("end(1001)", x.end(1001), -1);
        CHECK.due("end(1000)", x.end(1000), 1000);
    }

    static void endBringsNothingBack() {
        CHECK.sentence("NONE when it has not so many, or n is below 0.");
        LotMachine x = new LotMachine();
        x.feed(0, 0, 0, 0, 0);
        x.end(3);
        CHECK.due("end(20) behind end(3)", x.end(20), -1);
        CHECK.due("end(4) behind end(3)", x.end(4), -1);
        CHECK.due("end(3) again", x.end(3), 3);
    }

    // ---- promise 4: laws

    static void lawsNumbers() {
        CHECK.sentence("is a text of laws with a first day: its number");
        LotMachine x = new LotMachine();
        CHECK.due("the first", Check.tell(x, "pay 1;", 9), 0);
        CHECK.due("a faulty one", Check.tell(x, "pay", 9), -1);
        CHECK.due("one of no such day", Check.tell(x, "pay 1;", -1), -2);
        CHECK.due("the second", Check.tell(x, "pay 2;", 0), 1);
        CHECK.due("count(5)", x.count(5), 2);
    }

    static void lawsTapeEmptyThen() {
        CHECK.sentence("THE TAPE (read, and empty then)");
        LotMachine x = new LotMachine();
        Check.tell(x, "pay 1;", 0);
        CHECK.due("behind a sound one", x.count(6), 0);
        Check.tell(x, "pay", 0);
        CHECK.due("behind a faulty one", x.count(6), 0);
        LotMachine y = withFullBook();
        Check.tell(y, "pay 1;", 0);
        CHECK.due("behind FULL", y.count(6), 0);
    }

    static void lawsNoSuchDay() {
        CHECK.sentence("RANGE: no such day (THE TAPE is empty, too)");
        for (int day : new int[] {-1, MIN, 20001, MAX}) {
            LotMachine x = new LotMachine();
            CHECK.due("laws(" + day + ")", Check.tell(x, "pay 1;", day), -2);
            CHECK.due("the tape", x.count(6), 0);
            CHECK.due("texts", x.count(5), 0);
            CHECK.due("law(20000, 50)", x.law(20000, 50), -1);
        }
    }

    static void lawsFirstDayNotAheadOfTheClock() {
        CHECK.sentence("A text is told with a first day (not ahead of the CLOCK's)");
        LotMachine x = new LotMachine();
        CHECK.due("laws(0) on day 0", x.laws(0), 0);
        x.now(7);
        CHECK.due("laws(6) on day 7", Check.tell(x, "pay 1;", 6), -2);
        CHECK.due("the tape is empty, too", x.count(6), 0);
        CHECK.due("laws(0) on day 7", x.laws(0), -2);
        CHECK.due("laws(7) on day 7", x.laws(7), 1);
        CHECK.due("laws(8) on day 7", x.laws(8), 2);
    }

    static void lawsOfTheLastDay() {
        CHECK.sentence("RANGE: no such day (THE TAPE is empty, too)");
        LotMachine x = new LotMachine();
        CHECK.due("laws(20000) on day 0", x.laws(20000), 0);
        x.now(20000);
        CHECK.due("laws(20000) on it", x.laws(20000), 1);
        CHECK.due("laws(19999) on it", x.laws(19999), -2);
        CHECK.due("laws(20001) on it", x.laws(20001), -2);
    }

    static void lawsNoneWithAFault() {
        CHECK.sentence("NONE with a FAULT");
        LotMachine x = new LotMachine();
        CHECK.due("laws(0)", Check.tell(x, "age 5; pay 6; suit 0 water 1 over 2 water 3 fine 4; tie convict", 0), -1);
        CHECK.due("texts", x.count(5), 0);
        CHECK.due("age", x.law(0, 0), 10950);
        CHECK.due("the next text", Check.tell(x, "fifth 2;", 0), 0);
        CHECK.due("age is not kept", x.law(0, 0), 10950);
        CHECK.due("pay is not kept", x.law(0, 1), 3);
        CHECK.due("ties are not kept", x.law(0, 3), 0);
        CHECK.due("water is not kept", x.law(0, 10), 10);
        CHECK.due("over is not kept", x.law(0, 20), -1);
        CHECK.due("water beyond is not kept", x.law(0, 30), 10);
        CHECK.due("fine is not kept", x.law(0, 40), 0);
    }

    static void lawsFull() {
        CHECK.sentence("A text is told with a first day (not ahead of the CLOCK's); at most 15.");
        LotMachine x = withFullBook();
        CHECK.due("the sixteenth", Check.tell(x, "pay 99;", 0), -3);
        CHECK.due("texts", x.count(5), 15);
        CHECK.due("the last of fifteen is in force", x.law(0, 50), 14);
        CHECK.due("pay", x.law(0, 1), 24);
        CHECK.due("the empty text, too", x.laws(0), -3);
        x.now(1);
        CHECK.due("on another day, too", x.laws(1), -3);
    }

    static void lawsFaultAheadOfFull() {
        CHECK.sentence("NONE with a FAULT; FULL.");
        LotMachine x = withFullBook();
        CHECK.due("a faulty sixteenth", Check.tell(x, "pay", 0), -1);
        CHECK.due("fault(0)", x.fault(0), 1);
        CHECK.due("fault(1)", x.fault(1), 3);
    }

    static void lawsRangeAheadOfAll() {
        CHECK.sentence("RANGE: no such day (THE TAPE is empty, too); NONE with a FAULT; FULL.");
        LotMachine x = withFullBook();
        CHECK.due("a sixteenth of no such day", Check.tell(x, "pay 1;", -1), -2);
        CHECK.due("a faulty one of no such day", Check.tell(x, "pay", 20001), -2);
        CHECK.due("fault(0)", x.fault(0), 0);
    }

    // ---- promise 5: fault

    static void faultWithoutAnyLaws() {
        CHECK.sentence("Of the latest laws() that was not RANGE, what 0: its FAULT's KIND, 0 without, 1: its PLACE "
            + "(NONE).");
        LotMachine x = new LotMachine();
        CHECK.due("fault(0)", x.fault(0), 0);
        CHECK.due("fault(1)", x.fault(1), -1);
        Check.tell(x, "?", -1);
        CHECK.due("fault(0) behind RANGE alone", x.fault(0), 0);
        CHECK.due("fault(1) behind RANGE alone", x.fault(1), -1);
    }

    static void faultNotOfRange() {
        CHECK.sentence("Of the latest laws() that was not RANGE");
        LotMachine x = new LotMachine();
        Check.tell(x, "suit 6", 0);
        Check.tell(x, "pay 1; ?", -1);
        Check.tell(x, "pay 1;", 20001);
        CHECK.due("fault(0)", x.fault(0), 2);
        CHECK.due("fault(1)", x.fault(1), 5);
    }

    static void faultOfTheLatest() {
        CHECK.sentence("Of the latest laws() that was not RANGE");
        LotMachine x = new LotMachine();
        Check.tell(x, "suit 6", 0);
        Check.tell(x, " pay 1; pay", 0);
        CHECK.due("fault(0) of the second", x.fault(0), 3);
        CHECK.due("fault(1) of the second", x.fault(1), 8);
        Check.tell(x, "pay 1;", 0);
        CHECK.due("fault(0) of a sound one", x.fault(0), 0);
        CHECK.due("fault(1) of a sound one", x.fault(1), -1);
    }

    static void faultOfFull() {
        CHECK.sentence("Of the latest laws() that was not RANGE, what 0: its FAULT's KIND, 0 without");
        LotMachine x = withFullBook();
        Check.tell(x, "pay", 0);
        Check.tell(x, "pay 1;", 0);
        CHECK.due("fault(0)", x.fault(0), 0);
        CHECK.due("fault(1)", x.fault(1), -1);
    }

    static void faultStaysAsked() {
        CHECK.sentence("Of the latest laws() that was not RANGE, what 0: its FAULT's KIND");
        LotMachine x = new LotMachine();
        Check.tell(x, "suit 6", 0);
        x.fault(0);
        x.fault(1);
        x.feed(0, 0, 0, 0, 0);
        x.end(0);
        x.now(9);
        CHECK.due("fault(0)", x.fault(0), 2);
        CHECK.due("fault(1)", x.fault(1), 5);
    }

    static void faultForAnotherWhat() {
        CHECK.sentence("NONE for another what.");
        LotMachine x = new LotMachine();
        Check.tell(x, "suit 6", 0);
        for (int what : new int[] {-1, 2, 3, MIN, MAX}) {
            CHECK.due("fault(" + what + ")", x.fault(what), -1);
        }
    }

    // ---- promise 6: law

    static void lawNoSuchDay() {
        CHECK.sentence("-9 when there is none such (no such day).");
        LotMachine x = sound("pay 8;");
        for (int day : new int[] {-1, MIN, 20001, MAX}) {
            for (int what : new int[] {0, 1, 10, 20, 50}) {
                CHECK.due("law(" + day + ", " + what + ")", x.law(day, what), -9);
            }
        }
        CHECK.due("law(0, 1)", x.law(0, 1), 8);
        CHECK.due("law(20000, 1)", x.law(20000, 1), 8);
    }

    static void lawNoneSuch() {
        CHECK.sentence("-9 when there is none such (no such day).");
        LotMachine x = sound("pay 8; suit 5 water 1 over 2 water 3 fine 4;");
        for (int what : new int[] {-1, 4, 9, 16, 19, 26, 29, 36, 39, 46, 49, 51, 55, 60, 100, MIN, MAX}) {
            CHECK.due("law(0, " + what + ")", x.law(0, what), -9);
        }
    }

    static void lawFirstAndLastSuits() {
        CHECK.sentence("10 + k, 20 + k, 30 + k, 40 + k: of suits k water, the sum of over (NONE), the water beyond");
        LotMachine x = sound("suit 0 water 1 over 2 water 3 fine 4; suit 5 water 6 over 7 water 8 fine 9;");
        int[] want = {1, 6, 2, 7, 3, 8, 4, 9};
        for (int i = 0; i < want.length; i++) {
            int what = 10 + i / 2 * 10 + i % 2 * 5;
            CHECK.due("law(0, " + what + ")", x.law(0, what), want[i]);
        }
    }

    static void lawOverNone() {
        CHECK.sentence("the sum of over (NONE)");
        LotMachine x = sound("suit 1 water 6 fine 9; suit 2 water 6 over 0 water 0 fine 9;");
        CHECK.due("without over", x.law(0, 21), -1);
        CHECK.due("over 0", x.law(0, 22), 0);
        CHECK.due("not told", x.law(0, 23), -1);
    }

    static void lawWaterBeyondWithoutOver() {
        CHECK.sentence("the water beyond (as the first without)");
        LotMachine x = sound("suit 1 water 6 fine 9; suit 2 water 6 over 0 water 0 fine 9;");
        CHECK.due("without over", x.law(0, 31), 6);
        CHECK.due("with over", x.law(0, 32), 0);
        CHECK.due("not told", x.law(0, 33), 10);
    }

    static void lawTextNone() {
        CHECK.sentence("50: the text (NONE).");
        LotMachine x = new LotMachine();
        CHECK.due("without any", x.law(5, 50), -1);
        Check.tell(x, "", 6);
        CHECK.due("ahead of the first day", x.law(5, 50), -1);
        CHECK.due("on the first day", x.law(6, 50), 0);
    }

    static void lawTiesConvict() {
        CHECK.sentence("3: 1 if ties convict, else 0");
        CHECK.due("convict", sound("tie convict;").law(0, 3), 1);
        CHECK.due("acquit", sound("tie acquit;").law(0, 3), 0);
        CHECK.due("not told", sound("").law(0, 3), 0);
    }

    static void lawOfDaysGoneBy() {
        CHECK.sentence("What is IN FORCE on a day");
        LotMachine x = sound("pay 8;");
        x.now(20);
        Check.tell(x, "pay 9;", 20);
        CHECK.due("law(0, 1)", x.law(0, 1), 8);
        CHECK.due("law(19, 1)", x.law(19, 1), 8);
        CHECK.due("law(20, 1)", x.law(20, 1), 9);
    }

    // ---- the terms of LAWS

    static void tapeOfAThousandBytes() {
        CHECK.sentence("THE TAPE has at most 1000 bytes.");
        String almost = blanks(993) + "pay 42";
        CHECK.due("its last byte is read", sound(almost + ";").law(0, 1), 42);
        faulty(almost + " ", 1, 1000);
        faulty(almost + "?", 1, 999);
    }

    static void tokensAnyBlanks() {
        CHECK.sentence("TOKENS with any blanks (32, 10) between");
        CHECK.due("none", sound("age5;suit0water1over2water3fine4;tie convict;").law(0, 40), 4);
        CHECK.due("both, many", sound(" \n\n age \n \n 5 \n ;\n\n ").law(0, 0), 5);
        CHECK.due("10 alone", sound("\nage\n5\n;\n").law(0, 0), 5);
        CHECK.due("blanks alone", sound(" \n").law(0, 0), 10950);
    }

    static void tokensOtherBytesAreNone() {
        CHECK.sentence("TOKENS with any blanks (32, 10) between");
        int[] noBlanks = {0, 1, 8, 9, 11, 12, 13, 31, 33, 127, 128, 138, 160, 255};
        for (int value : noBlanks) {
            faulty("age 5;" + (char) value, 1, 6);
            faulty("age" + (char) value + "5;", 1, 3);
        }
    }

    static void wordsOfSmallLetters() {
        CHECK.sentence("WORDS (small letters, as many as there are)");
        faulty("Age 5;", 1, 0);
        faulty("agE 5;", 1, 0);
        faulty("`age 5;", 1, 0);
        faulty("{age 5;", 1, 0);
        faulty("age` 5;", 1, 3);
        faulty("age{ 5;", 1, 3);
        faulty("\u00e1ge 5;", 1, 0);
        faulty("a\u00e7e 5;", 1, 0);
    }

    static void wordsAsManyAsThereAre() {
        CHECK.sentence("WORDS (small letters, as many as there are)");
        faulty("agepay 5;", 1, 0);
        faulty("tieacquit;", 1, 0);
        faulty("tie acquittie;", 1, 4);
        faulty("agea 5;", 1, 0);
        faulty("agez 5;", 1, 0);
        faulty("ag e 5;", 1, 0);
        faulty("a", 1, 0);
        faulty("z".repeat(1000), 1, 0);
        CHECK.due("a number ends a word", sound("age5;pay6;").law(0, 1), 6);
    }

    static void numbersAsManyAsThereAre() {
        CHECK.sentence("NUMBERS (digits, as many as there are, 5 at most)");
        faulty("age 1 2;", 1, 6);
        faulty("age 12 345;", 1, 7);
        faulty("age 1/;", 1, 5);
        faulty("age 1:;", 1, 5);
        faulty("age \u00b1;", 1, 4);
        CHECK.due("a word ends a number", sound("suit 0 water 12fine 3;").law(0, 10), 12);
    }

    static void numbersOfFiveDigits() {
        CHECK.sentence("NUMBERS (digits, as many as there are, 5 at most)");
        CHECK.due("99999", sound("age 99999;").law(0, 0), 99999);
        CHECK.due("10000", sound("age 10000;").law(0, 0), 10000);
        CHECK.due("00000", sound("age 00000;").law(0, 0), 0);
        CHECK.due("00012", sound("age 00012;").law(0, 0), 12);
        CHECK.due("7", sound("age 7;").law(0, 0), 7);
    }

    static void numbersOfSixDigits() {
        CHECK.sentence("(or byte that is none, a NUMBER of six digits)");
        faulty("age 100000;", 1, 4);
        faulty("age 000000;", 1, 4);
        faulty("age 000001;", 1, 4);
        faulty("age 4294967301;", 1, 4);
        faulty("age " + "1".repeat(990) + ";", 1, 4);
        faulty("123456", 1, 0);
    }

    static void numbersZeroAndMostInEachPlace() {
        CHECK.sentence("K 0 .. 5, each N 0 .. 99999.");
        for (int n : new int[] {0, 99999}) {
            LotMachine x = sound("age " + n + "; pay " + n + "; fifth " + n + "; suit 3 water " + n + " over " + n
                + " water " + n + " fine " + n + ";");
            for (int what : new int[] {0, 1, 2, 13, 23, 33, 43}) {
                CHECK.due("law(0, " + what + ")", x.law(0, what), n);
            }
        }
    }

    static void numbersBeyondInEachPlace() {
        CHECK.sentence("K 0 .. 5, each N 0 .. 99999.");
        faulty("age 100000;", 1, 4);
        faulty("pay 100000;", 1, 4);
        faulty("fifth 100000;", 1, 6);
        faulty("suit 3 water 100000 over 1 water 1 fine 1;", 1, 13);
        faulty("suit 3 water 1 over 100000 water 1 fine 1;", 1, 20);
        faulty("suit 3 water 1 over 1 water 100000 fine 1;", 1, 28);
        faulty("suit 3 water 1 over 1 water 1 fine 100000;", 1, 35);
    }

    static void numbersBelowZeroAreNone() {
        CHECK.sentence("K 0 .. 5, each N 0 .. 99999.");
        faulty("age -1;", 1, 4);
        faulty("suit -1 water 1 fine 1;", 1, 5);
    }

    static void kindsZeroToFive() {
        CHECK.sentence("K 0 .. 5, each N 0 .. 99999.");
        for (int k = 0; k <= 5; k++) {
            CHECK.due("fine of " + k, sound("suit " + k + " water 1 fine 2;").law(0, 40 + k), 2);
            CHECK.due("fine of 0000" + k, sound("suit 0000" + k + " water 1 fine 2;").law(0, 40 + k), 2);
        }
    }

    static void textOfNoLines() {
        CHECK.sentence("text = {line \";\"}.");
        CHECK.due("the empty text", sound("").law(0, 50), 0);
        CHECK.due("of blanks", sound("\n \n").law(0, 50), 0);
        CHECK.due("of a thousand blanks", sound(blanks(1000)).law(0, 50), 0);
        faulty(";", 1, 0);
        faulty("age 5;;", 1, 6);
    }

    static void textWithoutItsLastSemicolon() {
        CHECK.sentence("text = {line \";\"}.");
        faulty("age 5", 1, 5);
        faulty("age 5; tie acquit", 1, 17);
        faulty("age 5 pay 6;", 1, 6);
        faulty("suit 0 water 1 fine 2", 1, 21);
    }

    static void lineCutAtEachToken() {
        CHECK.sentence("a TOKEN's first byte; the text's length at its end");
        String[] tokens = {"suit ", "3 ", "water ", "1 ", "over ", "2 ", "water ", "4 ", "fine ", "5 ", ";"};
        StringBuilder text = new StringBuilder();
        for (String token : tokens) {
            text.append(token);
            if (!token.equals(";")) {
                faulty(text.toString(), 1, text.length());
            }
        }
        sound(text.toString());
    }

    static void lineWithAnotherTokenAtEachPlace() {
        CHECK.sentence("1 SYNTAX: a TOKEN (or byte that is none, a NUMBER of six digits) with which no text goes on.");
        String[] tokens = {"suit", "3", "water", "1", "over", "2", "water", "4", "fine", "5", ";"};
        String[] others = {"convict", "acquit", "?", "123456", "waters", "fin", ";"};
        StringBuilder text = new StringBuilder();
        for (String token : tokens) {
            for (String other : others) {
                if (!other.equals(token)) {
                    faulty(text + other + " ;", 1, text.length());
                }
            }
            text.append(token).append(' ');
        }
    }

    static void lineWithATokenLeftOut() {
        CHECK.sentence("1 SYNTAX: a TOKEN (or byte that is none, a NUMBER of six digits) with which no text goes on.");
        String[] tokens = {"suit", "3", "water", "1", "over", "2", "water", "4", "fine", "5", ";"};
        for (int left = 0; left < tokens.length; left++) {
            StringBuilder text = new StringBuilder();
            int place = 0;
            for (int i = 0; i < tokens.length; i++) {
                if (i == left) {
                    place = text.length();
                } else {
                    text.append(tokens[i]).append(' ');
                }
            }
            // Without "over" it is its number that can't go on, without ";" the end.
            faulty(text.toString(), 1, place);
        }
    }

    static void lineWithALetterChanged() {
        CHECK.sentence("1 SYNTAX: a TOKEN (or byte that is none, a NUMBER of six digits) with which no text goes on.");
        String acquit = "age 1; pay 2; fifth 3; tie acquit; suit 4 water 5 over 6 water 7 fine 8;";
        for (String text : new String[] {acquit, acquit.replace("acquit", "convict")}) {
            sound(text);
            int word = 0;
            for (int i = 0; i < text.length(); i++) {
                char letter = text.charAt(i);
                boolean inWord = letter >= 'a' && letter <= 'z';
                if (inWord && (i == 0 || text.charAt(i - 1) == ' ')) {
                    word = i;
                }
                if (inWord) {
                    char other = letter == 'z' ? 'a' : (char) (letter + 1);
                    faulty(text.substring(0, i) + other + text.substring(i + 1), 1, word);
                    faulty(text.substring(0, i) + letter + text.substring(i), 1, word);
                    faulty(text.substring(0, i) + text.substring(i + 1), 1, word);
                }
            }
        }
    }

    static void lineWithAWordForANumber() {
        CHECK.sentence("1 SYNTAX: a TOKEN (or byte that is none, a NUMBER of six digits) with which no text goes on.");
        faulty("age ;", 1, 4);
        faulty("pay acquit;", 1, 4);
        faulty("fifth fifth;", 1, 6);
        faulty("tie 1;", 1, 4);
        faulty("tie ;", 1, 4);
        faulty("tie tie;", 1, 4);
        faulty("tie acquit acquit;", 1, 11);
        faulty("5 age;", 1, 0);
        faulty("suit suit", 1, 5);
        faulty("suit 1 2", 1, 7);
        faulty("suit 1 water water", 1, 13);
        faulty("suit 1 water 1 water 2 fine 3;", 1, 15);
        faulty("suit 1 water 1 over over", 1, 20);
        faulty("suit 1 water 1 over 2 over", 1, 22);
        faulty("suit 1 water 1 over 2 water 3 over 4", 1, 30);
        faulty("suit 1 water 1 fine fine", 1, 20);
        faulty("suit 1 water 1 fine 2 3", 1, 22);
        faulty("water 1;", 1, 0);
    }

    static void placeAtTheEnd() {
        CHECK.sentence("a TOKEN's first byte; the text's length at its end");
        faulty("age", 1, 3);
        faulty("age \n ", 1, 6);
        faulty("age 5" + blanks(995), 1, 1000);
        faulty(blanks(997) + "age", 1, 1000);
        faulty(blanks(995) + "age 5", 1, 1000);
        faulty(blanks(991) + "age 12345", 1, 1000);
        LotMachine x = new LotMachine();
        Check.write(x, "age 5 ;");
        x.end(6);
        CHECK.due("laws(0) of a text that was cut", x.laws(0), -1);
        CHECK.due("its length", x.fault(1), 6);
    }

    static void placeIsATokensFirstByte() {
        CHECK.sentence("a TOKEN's first byte; the text's length at its end");
        faulty("wrong", 1, 0);
        faulty(" \n wrong", 1, 3);
        faulty("age 5;\nwrong 5;", 1, 7);
        faulty("age   123456;", 1, 6);
        faulty(blanks(999) + "?", 1, 999);
    }

    static void faultFirstComeTo() {
        CHECK.sentence("the first come to as TOKENS are read one by one");
        faulty("suit 6 water ? age 1", 2, 5);
        faulty("age 1; age ?", 3, 7);
        faulty("age ? ; suit 6", 1, 4);
        faulty("age 1; age 2; suit 9 ; ?", 3, 7);
        faulty("suit 1 water 1 fine 1; suit 1 ? 6", 3, 28);
        faulty("suit 1 water 1 fine 1; suit 6; suit 1", 2, 28);
    }

    static void faultLeastKindOfOneToken() {
        CHECK.sentence("of one TOKEN the least KIND");
        faulty("age 1 age 2;", 1, 6);
        faulty("tie acquit; tie tie;", 3, 12);
        faulty("tie acquit; pay tie;", 1, 16);
        faulty("suit 100000 water 1 fine 1;", 1, 5);
        faulty("suit 1 water 1 fine 1; suit 1000001", 1, 28);
    }

    static void faultKindAboveFive() {
        CHECK.sentence("2 RANGE: a K above 5.");
        faulty("suit 6 water 1 fine 1;", 2, 5);
        faulty("suit 00006 water 1 fine 1;", 2, 5);
        faulty("suit 10 water 1 fine 1;", 2, 5);
        faulty("suit 99999", 2, 5);
        faulty("suit 6", 2, 5);
    }

    static void faultFirstWordTwice() {
        CHECK.sentence("3 TWICE: a line's first WORD that was told already");
        faulty("age 1; age 1;", 3, 7);
        faulty("pay 1; pay 1;", 3, 7);
        faulty("fifth 1; fifth 1;", 3, 9);
        faulty("tie acquit; tie convict;", 3, 12);
        faulty("age 1; pay 1; fifth 1; tie acquit; age", 3, 35);
        faulty("tie acquit; fifth 1; pay 1; age 1; tie", 3, 35);
    }

    static void faultSuitTwice() {
        CHECK.sentence("a suit of the same K (at it)");
        for (int k = 0; k <= 5; k++) {
            faulty("suit " + k + " water 1 fine 1; suit " + k, 3, 28);
            faulty("suit " + k + " water 1 fine 1; suit 000" + k + " water 1 fine 1;", 3, 28);
        }
    }

    static void suitsOfUnlikeKindsAreNotTwice() {
        CHECK.sentence("a suit of the same K (at it)");
        StringBuilder text = new StringBuilder();
        for (int k = 5; k >= 0; k--) {
            text.append("suit ").append(k).append(" water 1 fine 1").append(k).append(";");
        }
        LotMachine x = sound(text.toString());
        for (int k = 0; k <= 5; k++) {
            CHECK.due("fine of " + k, x.law(0, 40 + k), 10 + k);
        }
    }

    static void toldAlreadyInAnotherText() {
        CHECK.sentence("3 TWICE: a line's first WORD that was told already");
        LotMachine x = new LotMachine();
        String text = "age 1; pay 1; fifth 1; tie acquit; suit 2 water 1 fine 1;";
        CHECK.due("one text", Check.tell(x, text, 0), 0);
        CHECK.due("the same once more", Check.tell(x, text, 0), 1);
        CHECK.due("a faulty one", Check.tell(x, text + "?", 0), -1);
        CHECK.due("the same behind a faulty one", Check.tell(x, text, 0), 2);
    }

    static void inForceFirstDayNotBehindIt() {
        CHECK.sentence("of those with a first day not behind it that with the latest first day");
        LotMachine x = new LotMachine();
        Check.tell(x, "pay 11;", 10);
        Check.tell(x, "pay 22;", 20);
        CHECK.due("law(9, 1)", x.law(9, 1), 3);
        CHECK.due("law(10, 1)", x.law(10, 1), 11);
        CHECK.due("law(19, 1)", x.law(19, 1), 11);
        CHECK.due("law(20, 1)", x.law(20, 1), 22);
        CHECK.due("law(20000, 1)", x.law(20000, 1), 22);
    }

    static void inForceFromDayZeroAndTheLast() {
        CHECK.sentence("of those with a first day not behind it that with the latest first day");
        LotMachine x = new LotMachine();
        Check.tell(x, "pay 22;", 20000);
        Check.tell(x, "pay 11;", 0);
        CHECK.due("law(0, 1)", x.law(0, 1), 11);
        CHECK.due("law(19999, 1)", x.law(19999, 1), 11);
        CHECK.due("law(20000, 1)", x.law(20000, 1), 22);
    }

    static void inForceAnEarlierDayToldLater() {
        CHECK.sentence("of those with a first day not behind it that with the latest first day");
        LotMachine x = new LotMachine();
        Check.tell(x, "pay 22;", 20);
        Check.tell(x, "pay 11;", 10);
        CHECK.due("law(20, 1)", x.law(20, 1), 22);
        CHECK.due("law(19, 1)", x.law(19, 1), 11);
    }

    static void inForceTheOneToldLast() {
        CHECK.sentence("of such the one told last");
        LotMachine x = new LotMachine();
        for (int i = 0; i < 15; i++) {
            Check.tell(x, "pay 5" + i + ";", i % 3);
        }
        CHECK.due("law(0, 50)", x.law(0, 50), 12);
        CHECK.due("law(1, 50)", x.law(1, 50), 13);
        CHECK.due("law(2, 50)", x.law(2, 50), 14);
        CHECK.due("law(2, 1)", x.law(2, 1), 514);
    }

    static void inForceWithoutAny() {
        CHECK.sentence("without any, and where it doesn't tell: age 10950, pay 3, fifth 1000, ties acquit, suits "
            + "with water 10 and fine 0.");
        plainLaws(new LotMachine(), 0, -1);
        plainLaws(new LotMachine(), 20000, -1);
    }

    static void inForceWhereItDoesntTell() {
        CHECK.sentence("without any, and where it doesn't tell: age 10950, pay 3, fifth 1000, ties acquit, suits "
            + "with water 10 and fine 0.");
        LotMachine x = sound("age 1; pay 2; fifth 3; tie convict; suit 0 water 4 over 5 water 6 fine 7;");
        Check.tell(x, "", 1);
        plainLaws(x, 1, 1);
        CHECK.due("the day ahead of it", x.law(0, 1), 2);
    }

    private static void plainLaws(LotMachine x, int day, int text) {
        int[] want = {10950, 3, 1000, 0};
        for (int what = 0; what < want.length; what++) {
            CHECK.due("law(" + day + ", " + what + ")", x.law(day, what), want[what]);
        }
        for (int k = 0; k <= 5; k++) {
            CHECK.due("water of " + k, x.law(day, 10 + k), 10);
            CHECK.due("over of " + k, x.law(day, 20 + k), -1);
            CHECK.due("water beyond of " + k, x.law(day, 30 + k), 10);
            CHECK.due("fine of " + k, x.law(day, 40 + k), 0);
        }
        CHECK.due("text", x.law(day, 50), text);
    }
}
