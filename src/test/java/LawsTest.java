/** Promises 1 to 6: a new object, the tape, texts of laws, their faults, and what is in force. */
public final class LawsTest {
    private static final Check CHECK = new Check("LawsTest");

    public static void main(String[] args) {
        aNewObject();
        theTape();
        soundTexts();
        syntaxFaults();
        rangeAndTwiceFaults();
        textsCutShort();
        faultOfTheLatestLaws();
        daysOfTexts();
        fullBook();
        inForceByDays();
        everySlot();
        CHECK.end();
    }

    private static void aNewObject() {
        LotMachine x = new LotMachine();
        for (int what = 0; what <= 8; what++) {
            CHECK.due("new count(" + what + ")", x.count(what), 0);
        }
        CHECK.due("new fault(0)", x.fault(0), 0);
        CHECK.due("new fault(1)", x.fault(1), -1);
        CHECK.due("new law(0, 50)", x.law(0, 50), -1);
        CHECK.due("new chosen(0)", x.chosen(0), -1);
        CHECK.due("new about(0, 0)", x.about(0, 0), -1);
        for (int court = 0; court < 5; court++) {
            CHECK.due("new court(" + court + ", 0)", x.court(court, 0), 0);
        }
    }

    private static void theTape() {
        LotMachine x = new LotMachine();
        CHECK.due("end(0)", x.end(0), 0);
        CHECK.due("end(1)", x.end(1), -1);
        CHECK.due("end(-1)", x.end(-1), -1);
        for (int i = 1; i <= 50; i++) {
            CHECK.due("feed " + i, x.feed(-1, 0, 1, Integer.MIN_VALUE, Integer.MAX_VALUE), 20 * i);
        }
        CHECK.due("feed beyond 1000", x.feed(0, 0, 0, 0, 0), -3);
        CHECK.due("count(6)", x.count(6), 1000);
        CHECK.due("end(1001)", x.end(1001), -1);
        CHECK.due("end(981)", x.end(981), 981);
        CHECK.due("feed to 1001", x.feed(0, 0, 0, 0, 0), -3);
        CHECK.due("count(6)", x.count(6), 981);
        CHECK.due("end(980)", x.end(980), 980);
        CHECK.due("feed to 1000", x.feed(0, 0, 0, 0, 0), 1000);
        CHECK.due("end(Integer.MIN_VALUE)", x.end(Integer.MIN_VALUE), -1);
        CHECK.due("end(0)", x.end(0), 0);
        CHECK.due("end(20)", x.end(20), -1);
    }

    private static void sound(String text, int what, int want) {
        LotMachine x = new LotMachine();
        CHECK.due("laws(0) of [" + text + "]", Check.tell(x, text, 0), 0);
        CHECK.due("fault(0) of [" + text + "]", x.fault(0), 0);
        CHECK.due("fault(1) of [" + text + "]", x.fault(1), -1);
        CHECK.due("law(0, " + what + ") of [" + text + "]", x.law(0, what), want);
        CHECK.due("count(6) of [" + text + "]", x.count(6), 0);
    }

    private static void soundTexts() {
        sound("", 0, 10950);
        sound(" \n \n", 1, 3);
        sound("age 0;", 0, 0);
        sound("age 99999;", 0, 99999);
        sound("age00007;", 0, 7);
        sound("\nage\n12\n;\n", 0, 12);
        sound("pay 5;", 1, 5);
        sound("fifth 6;", 2, 6);
        sound("tie acquit;", 3, 0);
        sound("tie convict;", 3, 1);
        sound("suit0water1fine2;", 10, 1);
        sound("suit 5 water 1 fine 2;", 45, 2);
        sound("suit 00005 water 1 fine 2;", 45, 2);
        sound("suit 2 water 3 over 4 water 5 fine 6;", 22, 4);
        sound("suit 2 water 3 over 4 water 5 fine 6;suit 3 water 9 fine 0;", 33, 9);
        sound("pay 1;age 2;suit 1 water 1 fine 1;tie convict;fifth 4;suit 0 water 2 fine 2;", 40, 2);
        StringBuilder longest = new StringBuilder("age 77;");
        while (longest.length() < 1000) {
            longest.append(' ');
        }
        sound(longest.toString(), 0, 77);
    }

    private static void faulty(String text, int kind, int place) {
        LotMachine x = new LotMachine();
        CHECK.due("laws(0) of [" + text + "]", Check.tell(x, text, 0), -1);
        CHECK.due("fault(0) of [" + text + "]", x.fault(0), kind);
        CHECK.due("fault(1) of [" + text + "]", x.fault(1), place);
        CHECK.due("count(5) of [" + text + "]", x.count(5), 0);
        CHECK.due("count(6) of [" + text + "]", x.count(6), 0);
        CHECK.due("law(0, 50) of [" + text + "]", x.law(0, 50), -1);
    }

    private static void syntaxFaults() {
        faulty("age", 1, 3);
        faulty("age  ", 1, 5);
        faulty("age 5", 1, 5);
        faulty("age 5 \n", 1, 7);
        faulty("age ;", 1, 4);
        faulty("age five;", 1, 4);
        faulty("age 5 5;", 1, 6);
        faulty("age 100000;", 1, 4);
        faulty("age 000001;", 1, 4);
        faulty("age 1234567;", 1, 4);
        faulty(";", 1, 0);
        faulty("age 5;;", 1, 6);
        faulty("  ages 5;", 1, 2);
        faulty("ag 5;", 1, 0);
        faulty("agepay 5;", 1, 0);
        faulty("Age 5;", 1, 0);
        faulty("aGe 5;", 1, 0);
        faulty("5;", 1, 0);
        faulty("age 5.", 1, 5);
        faulty("age -5;", 1, 4);
        faulty("age\t5;", 1, 3);
        faulty("age 5;\r\n", 1, 6);
        faulty("age 5;\u0000", 1, 6);
        faulty("age 5;\u00e9", 1, 6);
        faulty("age 5;\u00ff", 1, 6);
        faulty("age `5;", 1, 4);
        faulty("age {5;", 1, 4);
        faulty("age /5;", 1, 4);
        faulty("age :5;", 1, 4);
        faulty("tie;", 1, 3);
        faulty("tie 5;", 1, 4);
        faulty("tie convicts;", 1, 4);
        faulty("tie acquit convict;", 1, 11);
        faulty("acquit;", 1, 0);
        faulty("suit water 1 fine 1;", 1, 5);
        faulty("suit 1 fine 1;", 1, 7);
        faulty("suit 1 water fine 1;", 1, 13);
        faulty("suit 1 water 1;", 1, 14);
        faulty("suit 1 water 1 over 5;", 1, 21);
        faulty("suit 1 water 1 over 5 fine 1;", 1, 22);
        faulty("suit 1 water 1 over 5 water fine 1;", 1, 28);
        faulty("suit 1 water 1 over 5 water 1 over 6 water 2 fine 1;", 1, 30);
        faulty("suit 1 water 1 over 5 water 1;", 1, 29);
        faulty("suit 1 water 1 fine;", 1, 19);
        faulty("suit 1 water 1 fine 1 over 2 water 3;", 1, 22);
        faulty("suit 123456 water 1 fine 1;", 1, 5);
        faulty("suit 1 water 123456 fine 1;", 1, 13);
        faulty("suit", 1, 4);
    }

    private static void rangeAndTwiceFaults() {
        faulty("suit 6 water 1 fine 1;", 2, 5);
        faulty("suit 99999 rubbish", 2, 5);
        faulty("suit 1 water 1 fine 1; suit 6", 2, 28);
        faulty("age 5; age", 3, 7);
        faulty("age 5; age ! ", 3, 7);
        faulty("age 5; pay 1; fifth 2; tie acquit; pay 2;", 3, 35);
        faulty("fifth 5; fifth 5;", 3, 9);
        faulty("tie acquit; tie acquit;", 3, 12);
        faulty("suit 3 water 1 fine 1; suit 03 water 1 fine 1;", 3, 28);
        faulty("suit 3 water 1 fine 1; suit 4 water 1 fine 1; suit 3", 3, 51);
        faulty("age 5 age 6;", 1, 6);
        faulty("suit 3 water 1 fine 1; suit ; suit 3", 1, 28);
    }

    private static void cut(String text, int n, int kind, int place) {
        LotMachine x = new LotMachine();
        Check.write(x, text);
        CHECK.due("end(" + n + ") of [" + text + "]", x.end(n), n);
        CHECK.due("laws(0) of [" + text + "] cut to " + n, x.laws(0), kind == 0 ? 0 : -1);
        CHECK.due("fault(0) of [" + text + "] cut to " + n, x.fault(0), kind);
        CHECK.due("fault(1) of [" + text + "] cut to " + n, x.fault(1), place);
    }

    /** What stood behind the cut is no part of the text, though its bytes may still be there. */
    private static void textsCutShort() {
        cut("age 1234567;", 9, 1, 9);
        cut("agepay 5;", 3, 1, 3);
        cut("age 5; pay", 6, 0, -1);
        cut("age 5;?", 6, 0, -1);
        cut("age 5;", 5, 1, 5);
        cut("age 5   ;", 7, 1, 7);
        cut("tie acquit;", 7, 1, 4);
        StringBuilder whole = new StringBuilder();
        while (whole.length() < 995) {
            whole.append(' ');
        }
        faulty(whole + "age 5", 1, 1000);
        faulty(whole + "  age", 1, 1000);
        LotMachine x = new LotMachine();
        Check.write(x, "age 999");
        x.end(5);
        Check.write(x, "1;");
        CHECK.due("a text written on behind a cut", x.laws(0), 0);
        CHECK.due("law(0, 0)", x.law(0, 0), 91);
    }

    private static void faultOfTheLatestLaws() {
        LotMachine x = new LotMachine();
        x.now(3);
        CHECK.due("laws(3)", Check.tell(x, "age 5; ?", 3), -1);
        CHECK.due("fault(0)", x.fault(0), 1);
        Check.write(x, "pay 1;");
        CHECK.due("laws(2)", x.laws(2), -2);
        CHECK.due("RANGE empties the tape", x.count(6), 0);
        CHECK.due("RANGE leaves fault(0)", x.fault(0), 1);
        CHECK.due("RANGE leaves fault(1)", x.fault(1), 7);
        CHECK.due("fault(2)", x.fault(2), -1);
        CHECK.due("fault(-1)", x.fault(-1), -1);
        CHECK.due("laws(3)", Check.tell(x, "pay 1;", 3), 0);
        CHECK.due("fault(0)", x.fault(0), 0);
        CHECK.due("fault(1)", x.fault(1), -1);
        CHECK.due("what a faulty text told is not kept", x.law(3, 0), 10950);
    }

    private static void daysOfTexts() {
        LotMachine x = new LotMachine();
        CHECK.due("laws(-1)", x.laws(-1), -2);
        CHECK.due("laws(20001)", x.laws(20001), -2);
        CHECK.due("laws(MIN)", x.laws(Integer.MIN_VALUE), -2);
        CHECK.due("laws(MAX)", x.laws(Integer.MAX_VALUE), -2);
        CHECK.due("laws(20000)", x.laws(20000), 0);
        CHECK.due("laws(0)", x.laws(0), 1);
        x.now(10);
        CHECK.due("laws(9)", x.laws(9), -2);
        CHECK.due("laws(10)", x.laws(10), 2);
        CHECK.due("law(20000, 50)", x.law(20000, 50), 0);
        CHECK.due("law(20001, 50)", x.law(20001, 50), -9);
        CHECK.due("law(-1, 50)", x.law(-1, 50), -9);
        CHECK.due("law(19999, 50)", x.law(19999, 50), 2);
        CHECK.due("law(9, 50)", x.law(9, 50), 1);
    }

    private static void fullBook() {
        LotMachine x = new LotMachine();
        for (int i = 0; i < 15; i++) {
            CHECK.due("laws " + i, Check.tell(x, "pay " + i + ";", i), i);
        }
        CHECK.due("a faulty sixteenth", Check.tell(x, "pay", 0), -1);
        CHECK.due("fault(1)", x.fault(1), 3);
        CHECK.due("a sixteenth", Check.tell(x, "pay 99;", 20), -3);
        CHECK.due("fault(0)", x.fault(0), 0);
        CHECK.due("FULL empties the tape", x.count(6), 0);
        CHECK.due("count(5)", x.count(5), 15);
        CHECK.due("law(20, 1)", x.law(20, 1), 14);
        CHECK.due("law(7, 1)", x.law(7, 1), 7);
        Check.write(x, "pay 1;");
        CHECK.due("RANGE ahead of FULL", x.laws(-1), -2);
    }

    private static void inForceByDays() {
        LotMachine x = new LotMachine();
        Check.tell(x, "age 1; pay 1;", 10);
        Check.tell(x, "age 2;", 20);
        Check.tell(x, "age 3;", 10);
        Check.tell(x, "age 4;", 5);
        CHECK.due("law(4, 0)", x.law(4, 0), 10950);
        CHECK.due("law(4, 50)", x.law(4, 50), -1);
        CHECK.due("law(5, 0)", x.law(5, 0), 4);
        CHECK.due("law(9, 50)", x.law(9, 50), 3);
        CHECK.due("law(10, 0)", x.law(10, 0), 3);
        CHECK.due("law(10, 50)", x.law(10, 50), 2);
        CHECK.due("an earlier text doesn't fill in", x.law(10, 1), 3);
        CHECK.due("law(19, 50)", x.law(19, 50), 2);
        CHECK.due("law(20, 50)", x.law(20, 50), 1);
        CHECK.due("law(20000, 0)", x.law(20000, 0), 2);
    }

    private static void everySlot() {
        LotMachine x = new LotMachine();
        StringBuilder text = new StringBuilder("age 1;pay 2;fifth 3;tie convict;");
        for (int k = 0; k < 6; k++) {
            text.append("suit ").append(k).append(" water ").append(100 + k);
            if (k % 2 == 0) {
                text.append(" over ").append(200 + k).append(" water ").append(300 + k);
            }
            text.append(" fine ").append(400 + k).append(";\n");
        }
        Check.tell(x, text.toString(), 1);
        int[] plain = {10950, 3, 1000, 0};
        int[] told = {1, 2, 3, 1};
        for (int what = -2; what <= 60; what++) {
            int k = what % 10;
            int wantPlain = -9;
            int wantTold = -9;
            if (what >= 0 && what < 4) {
                wantPlain = plain[what];
                wantTold = told[what];
            } else if (what >= 10 && what < 50 && k < 6) {
                int group = what / 10;
                wantPlain = group == 2 ? -1 : group == 4 ? 0 : 10;
                wantTold = group * 100 + k;
                if (k % 2 == 1 && group == 2) {
                    wantTold = -1;
                }
                if (k % 2 == 1 && group == 3) {
                    wantTold = 100 + k;
                }
            } else if (what == 50) {
                wantPlain = -1;
                wantTold = 0;
            }
            CHECK.due("law(0, " + what + ")", x.law(0, what), wantPlain);
            CHECK.due("law(1, " + what + ")", x.law(1, what), wantTold);
        }
        CHECK.due("law(1, MAX)", x.law(1, Integer.MAX_VALUE), -9);
        CHECK.due("law(1, MIN)", x.law(1, Integer.MIN_VALUE), -9);
    }
}
