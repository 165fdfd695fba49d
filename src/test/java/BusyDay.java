import java.util.ArrayList;
import java.util.List;
import java.util.function.Consumer;
import java.util.function.ToLongFunction;

/**
 * A day with everything in it, and the test that a refused call leaves all of it as it was.
 *
 * Day 3. Citizens 0 .. 9 are two rows of tribe 0, all chosen; 10 and 11 (not sworn) are of tribe 9, 12 is of
 * tribe 0 and came too late; 13 came for tribe 3, which hasn't drawn; 14 is of tribe 3 and owes 7.
 * Court 0: 0, 1, 2 sit, a suit is open in which the accuser spoke. Court 1: 3 sits, a suit is open with all discs
 * told. Court 2: 4 sits, its suit is closed. Court 3: 5 sits, two seats are free. Court 4 is shut.
 * One text of laws; "age" stands on the tape.
 */
final class BusyDay {
    static final int DAY = 3;
    static final int CITIZENS = 15;
    static final int ACCUSER = 10;
    static final int ACCUSED = 11;
    static final int LATE = 12;
    static final int INDEBTED = 14;

    private BusyDay() {
    }

    static LotMachine begin() {
        LotMachine x = new LotMachine();
        x.now(DAY);
        Check.tell(x, "pay 4;", DAY);
        Check.rowsCome(x, 0, 2);
        Check.sworn(x, 9, 0);
        x.citizen(9, 1, -11000);
        Check.sworn(x, 0, 0);
        x.come(Check.sworn(x, 3, 2));
        Check.sworn(x, 3, 0);
        x.owe(INDEBTED, 7, 1);
        x.draw(0, 2, 0);
        Courtroom.fill(x, 0, 3);
        x.suit(0, 0, ACCUSER, ACCUSED, 50);
        x.speak(0, 0, 4);
        Courtroom.fill(x, 1, 1);
        x.suit(1, 1, ACCUSER, ACCUSED, 5);
        x.disc(1, 3, 1);
        Courtroom.fill(x, 2, 1);
        x.suit(2, 2, ACCUSER, ACCUSED, 0);
        x.disc(2, 4, 1);
        x.close(2);
        x.open(3, 3);
        x.lot(3);
        Check.write(x, "age");
        return x;
    }

    static void refuses(Check check, String call, ToLongFunction<LotMachine> refused, long want) {
        refusesBehind(check, x -> { }, call, refused, want);
    }

    /** The call answers what is due, and everything goes on as if it had never been asked. */
    static void refusesBehind(Check check, Consumer<LotMachine> before, String call,
            ToLongFunction<LotMachine> refused, long want) {
        LotMachine asked = begin();
        LotMachine left = begin();
        before.accept(asked);
        before.accept(left);
        check.due(call, refused.applyAsLong(asked), want);
        check.same(call + " is refused, but changed", everything(asked), everything(left));
    }

    private static List<String> everything(LotMachine x) {
        List<String> answers = new ArrayList<>();
        askCountsAndLaws(x, answers);
        askPeople(x, answers);
        askCourts(x, answers);
        goOn(x, answers);
        return answers;
    }

    private static void askCountsAndLaws(LotMachine x, List<String> answers) {
        for (int what = 0; what <= 8; what++) {
            answers.add("count(" + what + ") " + x.count(what));
        }
        answers.add("fault(0) " + x.fault(0));
        answers.add("fault(1) " + x.fault(1));
        for (int tribe = 0; tribe < 10; tribe++) {
            answers.add("rows(" + tribe + ") " + x.rows(tribe));
        }
        for (int what = 0; what <= 50; what++) {
            if (what < 4 || what == 50 || what >= 10 && what % 10 < 6) {
                answers.add("law(3, " + what + ") " + x.law(DAY, what));
                answers.add("law(20000, " + what + ") " + x.law(20000, what));
            }
        }
    }

    private static void askPeople(LotMachine x, List<String> answers) {
        for (int c = 0; c < CITIZENS; c++) {
            for (int what = 0; what <= 9; what++) {
                answers.add("about(" + c + ", " + what + ") " + x.about(c, what));
            }
        }
        for (int i = 0; i <= 10; i++) {
            answers.add("chosen(" + i + ") " + x.chosen(i));
        }
    }

    private static void askCourts(LotMachine x, List<String> answers) {
        for (int court = 0; court < 5; court++) {
            for (int what = 0; what <= 14; what++) {
                answers.add("court(" + court + ", " + what + ") " + x.court(court, what));
            }
            for (int i = 0; i < (court == 0 ? 4 : 2); i++) {
                answers.add("seat(" + court + ", " + i + ") " + x.seat(court, i));
            }
        }
    }

    /** What no question tells shows in what comes next: bytes of the tape, a witness, who told a disc, who drew. */
    private static void goOn(LotMachine x, List<String> answers) {
        answers.add("lot(3) " + x.lot(3));
        answers.add("lot(4) " + x.lot(4));
        answers.add("speak(0, 1, 1) " + x.speak(0, 1, 1));
        for (int court = 0; court < 3; court++) {
            answers.add("speak(" + court + ", 0, 1) " + x.speak(court, 0, 1));
            answers.add("witness(" + court + ") " + x.witness(court));
            answers.add("witness(" + court + ") " + x.witness(court));
        }
        for (int c = 0; c < 5; c++) {
            int court = Math.max(0, c - 2);
            answers.add("disc of " + c + " " + x.disc(court, c, 1));
        }
        for (int court = 0; court < 4; court++) {
            answers.add("close(" + court + ") " + x.close(court));
            answers.add("court(" + court + ", 10) " + x.court(court, 10));
            answers.add("court(" + court + ", 14) " + x.court(court, 14));
        }
        for (int c = 9; c < CITIZENS; c++) {
            answers.add("come(" + c + ") " + x.come(c));
        }
        answers.add("draw(0, 0, 0) " + x.draw(0, 0, 0));
        answers.add("draw(3, 0, 0) " + x.draw(3, 0, 0));
        answers.add("citizen " + x.citizen(0, 0, -1));
        answers.add("pay(14, 7) " + x.pay(INDEBTED, 7));
        answers.add("swear(11) " + x.swear(ACCUSED));
        answers.add("text " + Check.tell(x, " 8; fifth 2;", 4));
        answers.add("law(4, 0) " + x.law(4, 0));
        answers.add("now(4) " + x.now(4));
    }
}
