/** Promises 28 to 30: slots, and what is counted. */
public final class SlotsTest {
    private static final Due T = new Due("SlotsTest");

    public static void main(String[] args) {
        keepAndAgain();
        twoSlots();
        refused();
        whatIsNotKept();
        count();
        T.end();
    }

    private static void keepAndAgain() {
        MilkTruce x = Due.pass("MG09K0050K8163");
        x.hour(false);
        x.hour(false);
        x.move(1, 4);
        x.sow(7);
        x.snow();
        T.due("acts", x.count(8), 5);
        T.due("keep(1)", x.keep(1), 2);
        T.due("acts stay by keep", x.count(8), 5);
        String seen = Due.lookButActs(x);
        x.snow();
        x.hour(false);
        x.move(0, 9);
        x.sow(7);
        x.hour(true);
        T.due("the hour", x.count(2), 4);
        T.due("again(1)", x.again(1), 2);
        T.due("acts behind again", x.count(8), 0);
        T.due("undo() behind again", x.undo(), MilkTruce.STATE);
        T.due("again(1) once more", x.again(1), 2);
        T.due("clover kept", x.clover(0), 7);
        T.due("clover sown kept", x.clover(7), 1);
        T.due("cell kept", x.cow(0, 0), 0);
        T.due("moved cell kept", x.cow(1, 0), 4);
        T.due("full kept", x.cow(0, 2), 2);
        T.due("snow kept", x.count(3), 1);
        T.due("pails of side 0 kept", x.count(4), 7);
        T.due("pails of side 1 kept", x.count(5), 6);
        T.due("hours of war kept", x.count(6), 0);
        T.due("but for the acts all is as it was seen", Due.lookButActs(x).equals(seen) ? 1 : 0, 1);
    }

    private static void twoSlots() {
        MilkTruce x = Due.pass("MG03K0000");
        T.due("keep(0)", x.keep(0), 0);
        x.hour(false);
        T.due("keep(1)", x.keep(1), 1);
        x.hour(false);
        T.due("again(0)", x.again(0), 0);
        T.due("full in slot 0", x.cow(0, 2), 0);
        T.due("again(1)", x.again(1), 1);
        T.due("full in slot 1", x.cow(0, 2), 1);
        T.due("hours of war in slot 1", x.count(6), 1);
        x.hour(false);
        T.due("keep(0) anew", x.keep(0), 2);
        x.hour(false);
        T.due("again(0) anew", x.again(0), 2);
        T.due("full in slot 0 anew", x.cow(0, 2), 2);
    }

    private static void refused() {
        MilkTruce x = Due.pass("MG03K0000");
        x.hour(false);
        T.due("keep(2)", x.keep(2), MilkTruce.UNKNOWN);
        T.due("keep(-1)", x.keep(-1), MilkTruce.UNKNOWN);
        T.due("again(2)", x.again(2), MilkTruce.UNKNOWN);
        T.due("again(-1)", x.again(-1), MilkTruce.UNKNOWN);
        T.due("again(0)", x.again(0), MilkTruce.STATE);
        T.due("again(1)", x.again(1), MilkTruce.STATE);
        x.keep(1);
        T.due("again(0) of the other", x.again(0), MilkTruce.STATE);
        T.due("a refused call leaves the acts", x.count(8), 1);
        T.due("the hour", x.count(2), 1);
    }

    private static void whatIsNotKept() {
        MilkTruce x = Due.pass("MG03K0000");
        x.seed(3);
        x.tell(0, 0, true);
        x.keep(0);
        x.seed(9);
        x.tell(0, 0, false);
        x.write('X');
        x.again(0);
        T.due("the seed is not kept", x.seed(1), 9);
        T.due("what was due is not kept", x.count(9), 2);
        T.due("the text is not kept", x.count(0), 10);
    }

    private static void count() {
        MilkTruce x = Due.pass("MG09K0070K8193");
        x.hour(false);
        x.hour(false);
        x.tell(0, 0, true);
        x.sow(5);
        int[] want = {14, 2, 2, 0, 7, 9, 1, 0, 3, 1};
        for (int what = 0; what <= 9; what++) {
            T.due("count(" + what + ")", x.count(what), want[what]);
        }
        T.due("count(10)", x.count(10), MilkTruce.OUTSIDE);
        T.due("count(-1)", x.count(-1), MilkTruce.OUTSIDE);
        x.snow();
        T.due("count(3) in snow", x.count(3), 1);
        T.due("count(7) in snow", x.count(7), 3);
        T.due("count(7) of one that warns", Due.pass("MK0053").count(7), 2);
        T.due("count(7) of one that is due", Due.pass("MK0063").count(7), 1);
    }
}
