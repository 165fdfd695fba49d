/** Promises 7 to 11: citizens, oaths, debts and what is told about them. */
public final class RollTest {
    private static final Check CHECK = new Check("RollTest");

    public static void main(String[] args) {
        comingOnTheRoll();
        fullRoll();
        oaths();
        debts();
        whoMaySit();
        CHECK.end();
    }

    private static void comingOnTheRoll() {
        LotMachine x = new LotMachine();
        CHECK.due("tribe -1", x.citizen(-1, 0, -5), -2);
        CHECK.due("tribe 10", x.citizen(10, 0, -5), -2);
        CHECK.due("letter -1", x.citizen(0, -1, -5), -2);
        CHECK.due("letter 5", x.citizen(0, 5, -5), -2);
        CHECK.due("born today", x.citizen(0, 0, 0), -2);
        CHECK.due("born -40001", x.citizen(0, 0, -40001), -2);
        CHECK.due("born MIN", x.citizen(0, 0, Integer.MIN_VALUE), -2);
        CHECK.due("nobody came on the roll", x.count(0), 0);
        CHECK.due("born -1", x.citizen(9, 4, -1), 0);
        CHECK.due("born -40000", x.citizen(0, 0, -40000), 1);
        x.now(100);
        CHECK.due("born 100 on day 100", x.citizen(3, 2, 100), -2);
        CHECK.due("born 99 on day 100", x.citizen(3, 2, 99), 2);
        CHECK.due("count(0)", x.count(0), 3);
        int[] want = {3, 2, 99, 0, 0, 0, -1, 0, -1, 0};
        for (int what = 0; what < want.length; what++) {
            CHECK.due("about(2, " + what + ")", x.about(2, what), want[what]);
        }
        CHECK.due("about(0, 0)", x.about(0, 0), 9);
        CHECK.due("about(0, 1)", x.about(0, 1), 4);
        CHECK.due("about(1, 2)", x.about(1, 2), -40000);
        CHECK.due("about(3, 0)", x.about(3, 0), -1);
        CHECK.due("about(-1, 0)", x.about(-1, 0), -1);
        CHECK.due("about(2, 10)", x.about(2, 10), -1);
        CHECK.due("about(2, -1)", x.about(2, -1), -1);
    }

    private static void fullRoll() {
        LotMachine x = new LotMachine();
        for (int i = 0; i < 150; i++) {
            CHECK.due("citizen " + i, x.citizen(i % 10, i % 5, -1), i);
        }
        CHECK.due("one more", x.citizen(0, 0, -1), -3);
        CHECK.due("RANGE ahead of FULL", x.citizen(10, 0, -1), -2);
        CHECK.due("count(0)", x.count(0), 150);
        CHECK.due("about(149, 0)", x.about(149, 0), 9);
        CHECK.due("about(150, 0)", x.about(150, 0), -1);
    }

    private static void oaths() {
        LotMachine x = new LotMachine();
        CHECK.due("swear(0) of nobody", x.swear(0), -2);
        x.citizen(0, 0, -1);
        CHECK.due("swear(-1)", x.swear(-1), -2);
        CHECK.due("swear(1)", x.swear(1), -2);
        CHECK.due("about(0, 3)", x.about(0, 3), 0);
        CHECK.due("swear(0)", x.swear(0), 1);
        CHECK.due("swear(0) again", x.swear(0), 0);
        CHECK.due("about(0, 3)", x.about(0, 3), 1);
        x.now(1);
        CHECK.due("about(0, 3) the next day", x.about(0, 3), 1);
    }

    private static void debts() {
        LotMachine x = new LotMachine();
        x.citizen(0, 0, -1);
        x.now(5);
        CHECK.due("owe(1, 1, 0)", x.owe(1, 1, 0), -2);
        CHECK.due("owe(-1, 1, 0)", x.owe(-1, 1, 0), -2);
        CHECK.due("owe(0, 0, 0)", x.owe(0, 0, 0), -2);
        CHECK.due("owe(0, -1, 0)", x.owe(0, -1, 0), -2);
        CHECK.due("owe(0, 1000000001, 0)", x.owe(0, 1000000001, 0), -2);
        CHECK.due("owe(0, 1, -1)", x.owe(0, 1, -1), -2);
        CHECK.due("owe(0, 1, 6)", x.owe(0, 1, 6), -2);
        CHECK.due("owes nothing", x.about(0, 4), 0);
        CHECK.due("pay without debt", x.pay(0, 1), -2);
        CHECK.due("owe(0, 1, 5)", x.owe(0, 1, 5), 1);
        CHECK.due("owe(0, 1000000000, 0)", x.owe(0, 1000000000, 0), 1000000001);
        CHECK.due("owe to 2000000001", x.owe(0, 1000000000, 0), -2);
        CHECK.due("owe to 2000000000", x.owe(0, 999999999, 0), 2000000000);
        CHECK.due("owe one more", x.owe(0, 1, 0), -2);
        CHECK.due("about(0, 4)", x.about(0, 4), 2000000000);
        CHECK.due("pay(1, 1)", x.pay(1, 1), -2);
        CHECK.due("pay(-1, 1)", x.pay(-1, 1), -2);
        CHECK.due("pay(0, 0)", x.pay(0, 0), -2);
        CHECK.due("pay(0, -1)", x.pay(0, -1), -2);
        CHECK.due("pay too much", x.pay(0, 2000000001), -2);
        CHECK.due("pay(0, 1999999999)", x.pay(0, 1999999999), 1);
        CHECK.due("pay(0, 2)", x.pay(0, 2), -2);
        CHECK.due("pay(0, 1)", x.pay(0, 1), 0);
        CHECK.due("pay(0, 1) again", x.pay(0, 1), -2);
    }

    private static void whoMaySit() {
        LotMachine x = new LotMachine();
        x.citizen(0, 0, -10949);
        CHECK.due("not sworn", x.about(0, 5), 0);
        x.swear(0);
        CHECK.due("a day too young", x.about(0, 5), 0);
        CHECK.due("come too young", x.come(0), -4);
        x.now(1);
        CHECK.due("just old enough", x.about(0, 5), 1);
        x.owe(0, 2, 0);
        CHECK.due("with debt", x.about(0, 5), 0);
        x.pay(0, 1);
        CHECK.due("with the rest of a debt", x.about(0, 5), 0);
        x.pay(0, 1);
        CHECK.due("paid", x.about(0, 5), 1);
        Check.tell(x, "age 10951;", 1);
        CHECK.due("the laws of today ask for more", x.about(0, 5), 0);
        Check.tell(x, "age 0;", 2);
        CHECK.due("tomorrow's laws don't count today", x.about(0, 5), 0);
        x.now(2);
        CHECK.due("now they do", x.about(0, 5), 1);
        x.citizen(0, 0, 1);
        CHECK.due("not sworn at age 0", x.about(1, 5), 0);
        x.swear(1);
        CHECK.due("sworn at age 0", x.about(1, 5), 1);
    }
}
