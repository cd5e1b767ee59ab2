/** Promises 20 to 23: who rang, what was due. */
public final class WhoTest {
    private static final Due T = new Due("WhoTest");
    /** One cow that stops HOUR 2 and HOUR 5 from now on. */
    private static final String ONE = "MG09K0050";

    public static void main(String[] args) {
        rang();
        tell();
        untell();
        full();
        fullByKind();
        fullWithOthers();
        fullFromNow();
        nothingIsChanged();
        T.end();
    }

    private static void rang() {
        MilkTruce x = Due.pass(ONE);
        T.due("rang(5, 18): nobody", x.rang(5, 18), 0);
        T.due("rang(5, 19)", x.rang(5, 19), 1);
        T.due("rang(5, 31)", x.rang(5, 31), 13);
        T.due("rang(8, 255)", x.rang(8, 255), 237);
        T.due("rang(5, 2): HOUR 5 did not stop", x.rang(5, 2), MilkTruce.NONE);
        T.due("rang(1, 0)", x.rang(1, 0), 0);
        T.due("rang(1, 1)", x.rang(1, 1), 1);
        T.due("rang(2, 0)", x.rang(2, 0), MilkTruce.NONE);
        T.due("rang(2, 4)", x.rang(2, 4), MilkTruce.OUTSIDE);
        T.due("rang(2, -1)", x.rang(2, -1), MilkTruce.OUTSIDE);
        T.due("rang(0, 0)", x.rang(0, 0), MilkTruce.OUTSIDE);
        T.due("rang(9, 0)", x.rang(9, 0), MilkTruce.OUTSIDE);
        T.due("rang(8, 256)", x.rang(8, 256), MilkTruce.OUTSIDE);
        T.due("rang: one that warns does not stop", Due.pass("MK0053").rang(3, 5), 5);
        x.snow();
        T.due("rang in snow", x.rang(5, 18), MilkTruce.NONE);
        T.due("rang in snow, none stopped", x.rang(5, 0), MilkTruce.NONE);
        T.due("rang in snow, outside", x.rang(5, 32), MilkTruce.OUTSIDE);
    }

    private static void tell() {
        MilkTruce x = Due.pass("MK0060K1000");
        T.due("tell(2, 0, true)", x.tell(2, 0, true), MilkTruce.UNKNOWN);
        T.due("tell(-1, 0, true)", x.tell(-1, 0, true), MilkTruce.UNKNOWN);
        T.due("tell(2, 8, true): the cow first", x.tell(2, 8, true), MilkTruce.UNKNOWN);
        T.due("tell(0, 8, true)", x.tell(0, 8, true), MilkTruce.OUTSIDE);
        T.due("tell(0, -1, true)", x.tell(0, -1, true), MilkTruce.OUTSIDE);
        T.due("none were told", x.count(9), 0);
        for (int i = 1; i <= 6; i++) {
            T.due("tell, the " + i + ".", x.tell(0, 0, true), i);
        }
        T.due("tell, the 7.", x.tell(0, 7, true), MilkTruce.FULL);
        T.due("tell, the 7., outside", x.tell(0, 8, true), MilkTruce.OUTSIDE);
        T.due("tell, the 7., unknown", x.tell(2, 0, true), MilkTruce.UNKNOWN);
        T.due("how many", x.count(9), 6);
        T.due("it is no act", x.count(8), 0);
    }

    private static void untell() {
        MilkTruce x = Due.pass(ONE);
        T.due("untell() of none", x.untell(), 0);
        x.tell(0, 0, true);
        x.tell(0, 0, false);
        T.due("full(0): it can not be", x.full(0), 0);
        T.due("untell()", x.untell(), 2);
        T.due("count(9)", x.count(9), 0);
        T.due("full(0): all", x.full(0), 1023);
        T.due("tell behind untell", x.tell(0, 0, false), 1);
        T.due("full(0) behind untell", x.full(0), 63);
    }

    private static void full() {
        MilkTruce x = Due.pass(ONE);
        T.due("full(0), nothing told", x.full(0), 1023);
        x.tell(0, 1, true);
        // HOURS of WAS DUE count from 0 on. 4 or 5 full it is due in hour 1; 6 and more, it is milked in hour 0.
        T.due("full(0), due in hour 1", x.full(0), 48);
        x.tell(0, 0, false);
        T.due("full(0), and not in hour 0", x.full(0), 48);
        x.tell(0, 4, false);
        // 4: 6 in hour 1, 2, 4, 6 in hour 4. 5: 7, 2, 4, 6 likewise.
        T.due("full(0), and not in hour 4", x.full(0), 0);
        x.untell();
        x.tell(0, 7, true);
        T.due("full(0), due in hour 7", x.full(0), 963);
        T.due("full(1)", x.full(1), MilkTruce.UNKNOWN);
        T.due("full(-1)", x.full(-1), MilkTruce.UNKNOWN);
    }

    private static void fullByKind() {
        MilkTruce x = Due.pass("MK0000K1001K2002K3003");
        x.tell(1, 0, false);
        T.due("a taught one", x.full(1), 511);
        x.untell();
        x.tell(2, 7, false);
        T.due("a dry one, not due", x.full(2), 1023);
        x.untell();
        x.tell(2, 7, true);
        T.due("a dry one, due", x.full(2), 0);
        x.untell();
        x.tell(3, 0, true);
        T.due("a white one", x.full(3), 960);
        x.tell(3, 1, true);
        T.due("a white one, milked", x.full(3), 0);
        x.snow();
        T.due("a white one, in snow it is not milked", x.full(3), 960);
    }

    private static void fullWithOthers() {
        MilkTruce x = Due.pass("MK0000K1190");
        x.tell(1, 0, true);
        T.due("what was told of the other is so", x.full(0), 1023);
        x.tell(1, 1, true);
        T.due("what was told of the other is not so", x.full(0), 0);
        T.due("nor of itself", x.full(1), 0);
        Due.write(x, "MK0000");
        x.pass();
        T.due("it is told yet", x.count(9), 2);
        T.due("of cows that are not there nothing is looked at", x.full(0), 1023);
        Due.write(x, "MK0000K1100");
        x.pass();
        T.due("of cows that are there again it is", x.full(0), 0);
    }

    private static void fullFromNow() {
        MilkTruce x = Due.pass(ONE);
        x.tell(0, 1, true);
        for (int i = 0; i < 8; i++) {
            x.hour(false);
        }
        // One clover is there: 5 full it is 6 full in an hour from now.
        T.due("from the hour that it is", x.full(0), 32);
        x.undo();
        T.due("from the hour that it is again", x.full(0), 32);
    }

    private static void nothingIsChanged() {
        MilkTruce x = Due.pass("MG09G11K0050K5143");
        x.hour(false);
        x.tell(0, 1, true);
        String seen = Due.look(x);
        x.rang(8, 255);
        x.rang(8, 0);
        x.full(0);
        x.full(1);
        x.full(2);
        x.tell(2, 0, true);
        x.tell(0, 8, true);
        T.due("nothing is changed", Due.look(x).equals(seen) ? 1 : 0, 1);
    }
}
