/** Promises 1 to 7: a new object, the text, its fault, the pass. */
public final class PassTest {
    private static final Due T = new Due("PassTest");
    private static final String TEN_CLOVERS = "MG01G12G23G34G45G56G67G78G89G91";

    public static void main(String[] args) {
        newObject();
        write();
        wipe();
        fault();
        faultAtAllPlaces();
        pass();
        passMakesAllAnew();
        clover();
        cow();
        T.end();
    }

    private static void newObject() {
        MilkTruce x = new MilkTruce();
        for (int what = 0; what <= 9; what++) {
            T.due("new: count(" + what + ")", x.count(what), 0);
        }
        for (int cell = 0; cell <= 9; cell++) {
            T.due("new: clover(" + cell + ")", x.clover(cell), 0);
        }
        T.due("new: cow(0, 0)", x.cow(0, 0), MilkTruce.UNKNOWN);
        T.due("new: fault()", x.fault(), 0);
        T.due("new: undo()", x.undo(), MilkTruce.STATE);
        T.due("new: again(0)", x.again(0), MilkTruce.STATE);
        T.due("new: seed(1)", x.seed(1), 0);
        T.due("UNKNOWN", MilkTruce.UNKNOWN, -1);
        T.due("OUTSIDE", MilkTruce.OUTSIDE, -2);
        T.due("STATE", MilkTruce.STATE, -3);
        T.due("FULL", MilkTruce.FULL, -4);
        T.due("NONE", MilkTruce.NONE, -9);
    }

    private static void write() {
        MilkTruce x = new MilkTruce();
        T.due("write(-1)", x.write(-1), MilkTruce.OUTSIDE);
        T.due("write(256)", x.write(256), MilkTruce.OUTSIDE);
        T.due("write(MAX)", x.write(Integer.MAX_VALUE), MilkTruce.OUTSIDE);
        T.due("count(0) behind refusals", x.count(0), 0);
        T.due("write(0)", x.write(0), 1);
        T.due("write(255)", x.write(255), 2);
        for (int i = 3; i <= 64; i++) {
            T.due("write, the " + i + ".", x.write('M'), i);
        }
        T.due("write, the 65.", x.write('M'), MilkTruce.FULL);
        T.due("write(256) on a full text", x.write(256), MilkTruce.OUTSIDE);
        T.due("count(0)", x.count(0), 64);
    }

    private static void wipe() {
        MilkTruce x = new MilkTruce();
        T.due("wipe() of nothing", x.wipe(), 0);
        Due.write(x, TEN_CLOVERS);
        T.due("wipe()", x.wipe(), 31);
        T.due("count(0) behind wipe", x.count(0), 0);
        T.due("wipe() again", x.wipe(), 0);
        T.due("write behind wipe", x.write('M'), 1);
        T.due("fault behind wipe", x.fault(), MilkTruce.NONE);
    }

    private static void faultIs(String letters, int want) {
        T.due("fault of '" + letters + "'", Due.text(letters).fault(), want);
    }

    private static void fault() {
        faultIs("", 0);
        faultIs("M", MilkTruce.NONE);
        faultIs("m", 0);
        faultIs("G01", 0);
        faultIs("MM", 1);
        faultIs("MX", 1);
        faultIs("M0", 1);
        faultIs("MG", 2);
        faultIs("MG0", 3);
        faultIs("MG01", MilkTruce.NONE);
        faultIs("MG00", 3);
        faultIs("MG0:", 3);
        faultIs("MG/1", 2);
        faultIs("MG:1", 2);
        faultIs("MG99", MilkTruce.NONE);
        faultIs("MG01G01", 5);
        faultIs("MG01G11", MilkTruce.NONE);
        faultIs("MK", 2);
        faultIs("MK9", 3);
        faultIs("MK91", 4);
        faultIs("MK919", 5);
        faultIs("MK9193", MilkTruce.NONE);
        faultIs("MK9293", 3);
        faultIs("MK9194", 5);
        faultIs("MK91G3", 4);
        faultIs("MK9193K9", 7);
        faultIs("MK9193K8", 8);
        faultIs("MG91K9193", MilkTruce.NONE);
        faultIs("MK9193G91", MilkTruce.NONE);
        faultIs("MK9193 ", 6);
        faultIs("XG01", 0);
        // Ten cells have clover: an eleventh G can be no part of a pass.
        faultIs(TEN_CLOVERS, MilkTruce.NONE);
        faultIs(TEN_CLOVERS + "G", 31);
        faultIs(TEN_CLOVERS + "G0", 31);
        faultIs(TEN_CLOVERS + "K0000", MilkTruce.NONE);
        // Six cows are there: a seventh K can be no part of a pass.
        faultIs("MK0000K1000K2000K3000K4000K5000", MilkTruce.NONE);
        faultIs("MK0000K1000K2000K3000K4000K5000K", 31);
        faultIs("MK0000K1000K2000K3000K4000K5000G", 32);
        // The length of the text is set aside: what is only not at its end faults at its length.
        String sixtyOne = "MK0000K1000K2000K3000K4000K5000" + TEN_CLOVERS.substring(1);
        faultIs(sixtyOne, MilkTruce.NONE);
        faultIs(TEN_CLOVERS.substring(0, 28) + "K0000K1000K2000K3000K4000K5000" + "G9", 60);
        faultIs(sixtyOne + "GGG", 61);
    }

    private static void faultAtAllPlaces() {
        String letters = "MG29K9193G45K2002";
        for (int i = 0; i < letters.length(); i++) {
            faultIs(letters.substring(0, i) + (char) 255 + letters.substring(i + 1), i);
        }
        MilkTruce x = Due.text("MG2");
        T.due("fault()", x.fault(), 3);
        T.due("fault() again", x.fault(), 3);
        T.due("count(0) behind fault", x.count(0), 3);
    }

    private static void pass() {
        MilkTruce x = Due.text("MG09K0050K5100G13");
        T.due("pass()", x.pass(), 2);
        T.due("count(0): the text stays", x.count(0), 17);
        T.due("count(1)", x.count(1), 2);
        T.due("clover(0)", x.clover(0), 9);
        T.due("clover(1)", x.clover(1), 3);
        T.due("clover(2)", x.clover(2), 0);
        T.due("cow(1, 0)", x.cow(1, 0), 5);
        x.write('G');
        String seen = Due.look(x);
        T.due("pass() with a fault", x.pass(), MilkTruce.STATE);
        T.due("a refused pass changes nothing", Due.look(x).equals(seen) ? 1 : 0, 1);
        Due.write(x, "M");
        T.due("pass() of M", x.pass(), 0);
        T.due("clover(0) of M", x.clover(0), 0);
        T.due("cow(0, 0) of M", x.cow(0, 0), MilkTruce.UNKNOWN);
        Due.write(x, "MK0000K1000K2000K3000K4000K5000");
        T.due("pass() of six cows", x.pass(), 6);
    }

    private static void passMakesAllAnew() {
        MilkTruce x = Due.pass("MG09K0060");
        x.hour(false);
        x.hour(false);
        x.snow();
        x.sow(3);
        x.keep(0);
        x.keep(1);
        x.tell(0, 2, true);
        x.seed(77);
        T.due("pass() anew", x.pass(), 1);
        T.due("the hour anew", x.count(2), 0);
        T.due("the snow anew", x.count(3), 0);
        T.due("the pails of side 0 anew", x.count(4), 0);
        T.due("the pails of side 1 anew", x.count(5), 0);
        T.due("the hours of war anew", x.count(6), 0);
        T.due("the acts anew", x.count(8), 0);
        T.due("undo() of none", x.undo(), MilkTruce.STATE);
        T.due("again(0): gone", x.again(0), MilkTruce.STATE);
        T.due("again(1): gone", x.again(1), MilkTruce.STATE);
        T.due("clover(0) anew", x.clover(0), 9);
        T.due("clover(3) anew", x.clover(3), 0);
        T.due("cow(0, 2) anew", x.cow(0, 2), 6);
        T.due("what was due stays", x.count(9), 1);
        T.due("the seed stays", x.seed(0), 77);
    }

    private static void clover() {
        MilkTruce x = Due.pass(TEN_CLOVERS);
        int[] want = {1, 2, 3, 4, 5, 6, 7, 8, 9, 1};
        for (int cell = 0; cell <= 9; cell++) {
            T.due("clover(" + cell + ")", x.clover(cell), want[cell]);
        }
        T.due("clover(-1)", x.clover(-1), MilkTruce.OUTSIDE);
        T.due("clover(10)", x.clover(10), MilkTruce.OUTSIDE);
    }

    private static void cow() {
        MilkTruce x = Due.pass("MK7053K3060K4182K2181K6191");
        int[][] want = {{7, 0, 5, 3, 0}, {3, 0, 6, 0, 1}, {4, 1, 8, 2, 0}, {2, 1, 8, 1, 0}, {6, 1, 9, 1, 1}};
        for (int cow = 0; cow < want.length; cow++) {
            for (int what = 0; what <= 4; what++) {
                T.due("cow(" + cow + ", " + what + ")", x.cow(cow, what), want[cow][what]);
            }
        }
        T.due("cow(-1, 0)", x.cow(-1, 0), MilkTruce.UNKNOWN);
        T.due("cow(5, 0)", x.cow(5, 0), MilkTruce.UNKNOWN);
        T.due("cow(5, 5): the cow first", x.cow(5, 5), MilkTruce.UNKNOWN);
        T.due("cow(0, 5)", x.cow(0, 5), MilkTruce.OUTSIDE);
        T.due("cow(0, -1)", x.cow(0, -1), MilkTruce.OUTSIDE);
        MilkTruce dry = Due.pass("MK0092K1053K2063");
        T.due("a dry cow is never due", dry.cow(0, 4), 0);
        T.due("a white one that is 5 full is not due", dry.cow(1, 4), 0);
        T.due("a white one that is 6 full is due", dry.cow(2, 4), 1);
    }
}
