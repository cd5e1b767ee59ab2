/** Promises 8 to 12: hours, cows moved, clover sown, snow, all undone. */
public final class ActsTest {
    private static final Due T = new Due("ActsTest");

    public static void main(String[] args) {
        hours();
        hoursBySort();
        fullest();
        rung();
        hoursWithSnow();
        cowsOfBothSides();
        move();
        sow();
        snow();
        undo();
        undoOfMany();
        refusalsAreNoActs();
        T.end();
    }

    private static void cowIs(String when, MilkTruce x, int full, int clover) {
        T.due(when + ": full", x.cow(0, 2), full);
        T.due(when + ": clover", x.clover(x.cow(0, 0)), clover);
    }

    private static void hours() {
        MilkTruce x = Due.pass("MG09K0050");
        int[] sorts = {0, 1, 0, 0, 1, 0, 0, 0, 0, 1, 0, 0};
        int[] fulls = {7, 2, 4, 6, 2, 3, 4, 5, 6, 0, 0, 0};
        int[] clovers = {8, 7, 6, 5, 4, 3, 2, 1, 0, 0, 0, 0};
        int[] pails = {0, 7, 7, 7, 13, 13, 13, 13, 13, 19, 19, 19};
        int[] wars = {1, 1, 2, 3, 3, 4, 5, 6, 7, 7, 8, 9};
        for (int i = 0; i < sorts.length; i++) {
            T.due("count(7) ahead of hour " + i, x.count(7), sorts[i]);
            T.due("hour " + i, x.hour(false), sorts[i]);
            cowIs("behind hour " + i, x, fulls[i], clovers[i]);
            T.due("the hour behind hour " + i, x.count(2), i + 1);
            T.due("pails of side 0 behind hour " + i, x.count(4), pails[i]);
            T.due("pails of side 1 behind hour " + i, x.count(5), 0);
            T.due("hours of war behind hour " + i, x.count(6), wars[i]);
        }
    }

    private static void hoursBySort() {
        MilkTruce white = Due.pass("MG01K0043");
        T.due("a white one 4 full", white.hour(false), 0);
        T.due("a white one 5 full warns", white.hour(false), 2);
        T.due("hours of war: a warned one is none", white.count(6), 1);
        T.due("it warns again", white.hour(false), 2);
        T.due("nothing is milked", white.cow(0, 2), 5);
        MilkTruce taught = Due.pass("MG01K0081");
        T.due("a taught one 8 full waits", taught.hour(false), 0);
        T.due("a taught one 9 full", taught.hour(false), 1);
        T.due("its pails", taught.count(4), 9);
        MilkTruce dry = Due.pass("MG01K0082");
        T.due("a dry one 8 full", dry.hour(false), 0);
        T.due("a dry one 9 full", dry.hour(false), 0);
        T.due("a dry one is not milked", dry.cow(0, 2), 9);
        MilkTruce both = Due.pass("MK0053K1160");
        T.due("due goes ahead of warned", both.hour(false), 1);
        T.due("then it is warned", both.hour(false), 2);
        MilkTruce stop = Due.pass("MK0052K1160");
        T.due("a stop milks the due ones", stop.hour(false), 1);
        T.due("and no others", stop.cow(0, 2), 5);
        T.due("a dry one that is 5 full does not warn", stop.hour(false), 0);
    }

    private static void fullest() {
        MilkTruce x = Due.pass("MG06K0082");
        x.hour(false);
        cowIs("9 at most", x, 9, 5);
        x.hour(false);
        cowIs("a full one eats all the same", x, 9, 4);
        x.hour(false);
        cowIs("and again", x, 9, 3);
        MilkTruce five = Due.pass("MG05K0000");
        five.hour(false);
        cowIs("5 clover: 2 more", five, 2, 4);
        five.hour(false);
        cowIs("4 clover: 1 more", five, 3, 3);
    }

    private static void rung() {
        MilkTruce x = Due.pass("MG03K0043K1173");
        T.due("hour(true), one is due", x.hour(true), 1);
        T.due("pails of side 1", x.count(5), 7);
        T.due("hour(true), one warns", x.hour(true), 1);
        T.due("the one that warned is not milked", x.cow(0, 2), 6);
        T.due("hours of war: none", x.count(6), 0);
        MilkTruce none = new MilkTruce();
        T.due("hour(true) with no cows", none.hour(true), 1);
        T.due("the hour", none.count(2), 1);
        T.due("hours of war", none.count(6), 0);
        T.due("hour(false) with no cows", none.hour(false), 0);
        T.due("hours of war then", none.count(6), 1);
    }

    private static void hoursWithSnow() {
        MilkTruce x = Due.pass("MG09K0070");
        x.snow();
        T.due("an hour with snow", x.hour(false), 3);
        T.due("a rung hour with snow", x.hour(true), 3);
        cowIs("in snow none eats and none is milked", x, 7, 9);
        T.due("the hour goes on", x.count(2), 2);
        T.due("no pails", x.count(4), 0);
        T.due("no war", x.count(6), 0);
        T.due("it is due all the same", x.cow(0, 4), 1);
        T.due("count(7)", x.count(7), 3);
        x.snow();
        T.due("behind the snow", x.hour(false), 1);
        T.due("pails", x.count(4), 7);
    }

    private static void cowsOfBothSides() {
        MilkTruce x = Due.pass("MG05K0060K1191K2192K3180K4170G21");
        T.due("hour", x.hour(false), 1);
        T.due("pails of side 0", x.count(4), 6);
        T.due("pails of side 1", x.count(5), 24);
        int[] fulls = {2, 0, 9, 0, 0};
        for (int cow = 0; cow < fulls.length; cow++) {
            T.due("full: cow " + cow, x.cow(cow, 2), fulls[cow]);
        }
        T.due("the milked one ate", x.clover(0), 4);
        T.due("the full dry one ate", x.clover(2), 0);
    }

    private static void move() {
        MilkTruce x = Due.pass("MG53K0050K1100");
        T.due("move(0, 5)", x.move(0, 5), 0);
        T.due("cow(0, 0)", x.cow(0, 0), 5);
        T.due("move(1, 0)", x.move(1, 0), 1);
        T.due("move(1, 9)", x.move(1, 9), 0);
        T.due("the clover stays", x.clover(5), 3);
        String seen = Due.look(x);
        T.due("move(2, 3)", x.move(2, 3), MilkTruce.UNKNOWN);
        T.due("move(-1, 3)", x.move(-1, 3), MilkTruce.UNKNOWN);
        T.due("move(2, 10): the cow first", x.move(2, 10), MilkTruce.UNKNOWN);
        T.due("move(0, 10)", x.move(0, 10), MilkTruce.OUTSIDE);
        T.due("move(0, -1)", x.move(0, -1), MilkTruce.OUTSIDE);
        T.due("move(0, 9): a cow is there", x.move(0, 9), MilkTruce.STATE);
        T.due("move(0, 5): it is there itself", x.move(0, 5), MilkTruce.STATE);
        T.due("a refused move changes nothing", Due.look(x).equals(seen) ? 1 : 0, 1);
        T.due("acts", x.count(8), 3);
        x.hour(false);
        T.due("it eats where it is", x.clover(5), 2);
    }

    private static void sow() {
        MilkTruce x = Due.pass("MG08");
        T.due("sow(0)", x.sow(0), 9);
        T.due("sow(0) on 9", x.sow(0), MilkTruce.FULL);
        T.due("sow(9)", x.sow(9), 1);
        T.due("sow(10)", x.sow(10), MilkTruce.OUTSIDE);
        T.due("sow(-1)", x.sow(-1), MilkTruce.OUTSIDE);
        T.due("clover(0)", x.clover(0), 9);
        T.due("clover(9)", x.clover(9), 1);
        T.due("acts", x.count(8), 2);
    }

    private static void snow() {
        MilkTruce x = Due.pass("MK0060");
        T.due("snow()", x.snow(), 1);
        T.due("count(3)", x.count(3), 1);
        T.due("snow() again", x.snow(), 0);
        T.due("count(3) then", x.count(3), 0);
        T.due("acts", x.count(8), 2);
    }

    private static void undo() {
        MilkTruce x = Due.pass("MG09K0070");
        String[] seen = new String[6];
        seen[0] = Due.look(x);
        x.hour(false);
        seen[1] = Due.look(x);
        x.move(0, 4);
        seen[2] = Due.look(x);
        x.sow(4);
        seen[3] = Due.look(x);
        x.hour(true);
        seen[4] = Due.look(x);
        x.snow();
        for (int left = 4; left >= 0; left--) {
            T.due("undo() to " + left, x.undo(), left);
            T.due("all is as it was, " + left, Due.look(x).equals(seen[left]) ? 1 : 0, 1);
        }
        T.due("undo() of none", x.undo(), MilkTruce.STATE);
        T.due("nothing changed", Due.look(x).equals(seen[0]) ? 1 : 0, 1);
        T.due("an hour behind undo", x.hour(false), 1);
        T.due("pails behind undo", x.count(4), 7);
        T.due("acts behind undo", x.count(8), 1);
    }

    private static void undoOfMany() {
        MilkTruce x = Due.pass("M");
        for (int i = 1; i <= 17; i++) {
            x.hour(false);
            T.due("acts behind " + i, x.count(8), Math.min(i, 14));
        }
        for (int i = 13; i >= 10; i--) {
            T.due("undo()", x.undo(), i);
            T.due("the hour behind undo", x.count(2), i + 3);
        }
        for (int i = 11; i <= 16; i++) {
            x.sow(2);
            T.due("acts behind a sowing", x.count(8), Math.min(i, 14));
        }
        for (int i = 13; i >= 0; i--) {
            T.due("undo() from the full row", x.undo(), i);
            T.due("clover then", x.clover(2), Math.max(0, i - 8));
            T.due("the hour then", x.count(2), Math.min(13, i + 5));
        }
        T.due("undo() of none", x.undo(), MilkTruce.STATE);
        T.due("the first ones are forgotten", x.count(2), 5);
    }

    private static void refusalsAreNoActs() {
        MilkTruce x = Due.pass("MG09K0070");
        x.move(0, 0);
        x.move(1, 1);
        x.sow(0);
        x.sow(-1);
        x.undo();
        x.keep(0);
        x.again(1);
        T.due("acts behind refusals", x.count(8), 0);
    }
}
