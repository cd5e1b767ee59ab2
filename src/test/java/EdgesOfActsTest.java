/** The edges that the document names for acts, slots and what is counted: a test for each. */
public final class EdgesOfActsTest {
    private static final Due T = new Due("EdgesOfActsTest");
    private static final int STATE = MilkTruce.STATE, FULL = MilkTruce.FULL;

    public static void main(String[] args) {
        sortsGoAheadOfOthers();
        milkedFromNineAndFromSix();
        notMilkedBelowDue();
        eatsByHowMuchThereIs();
        eatsNineAtMost();
        emptyCellFeedsNone();
        snowFeedsNone();
        hoursOfNoCows();
        hoursOfSixCows();
        movedWhereACowIs();
        movedWithAllCellsTried();
        cloverAtNine();
        snowComesAndGoes();
        rowIsFull();
        rowForgetsTheFirst();
        rowOfEachAct();
        refusedActsAreNoActs();
        noActLeft();
        undoneBehindUndone();
        slotNeverKept();
        keptTwice();
        wentOnTwice();
        rowIsEmptyBehindAgain();
        keptOfNoCows();
        keptIsAllOfThem();
        countsAtTheirLeast();
        countsAtTheirMost();
        T.end();
    }

    /** "3 SNOW, if there is SNOW; else 1 STOP ..; else 2 WARNED ..; else 0 WAR" */
    private static void sortsGoAheadOfOthers() {
        String due = "MK0060K1053";
        String warns = "MK1053";
        String none = "MK1043";
        Scene.answers(T, due, "one due, one warns", 1, x -> x.hour(false));
        Scene.answers(T, due, "one due, rung", 1, x -> x.hour(true));
        Scene.answers(T, warns, "one warns", 2, x -> x.hour(false));
        Scene.answers(T, warns, "one warns, rung", 1, x -> x.hour(true));
        Scene.answers(T, none, "none", 0, x -> x.hour(false));
        Scene.answers(T, none, "none, rung", 1, x -> x.hour(true));
        for (String letters : new String[] {due, warns, none, "M"}) {
            for (boolean rung : new boolean[] {false, true}) {
                MilkTruce x = Due.pass(letters);
                x.snow();
                T.due(letters + " in snow, rung: " + rung, x.hour(rung), 3);
                T.due(letters + " in snow: hours of war", x.count(6), 0);
                T.due(letters + " in snow: the hour", x.count(2), 1);
            }
        }
    }

    private static void milkedIs(String letters, int full, int side0, int side1) {
        MilkTruce x = Due.pass(letters);
        T.due(letters + ": a stop", x.hour(true), 1);
        T.due(letters + ": full then", x.cow(0, 2), full);
        T.due(letters + ": pails of side 0", x.count(4), side0);
        T.due(letters + ": pails of side 1", x.count(5), side1);
        T.due(letters + ": hours of war", x.count(6), 0);
    }

    /** "its SIDE has as many PAILS more as it is full, it is 0 full" */
    private static void milkedFromNineAndFromSix() {
        milkedIs("MK0060", 0, 6, 0);
        milkedIs("MK0090", 0, 9, 0);
        milkedIs("MK0160", 0, 0, 6);
        milkedIs("MK0190", 0, 0, 9);
        milkedIs("MK0191", 0, 0, 9);
        milkedIs("MK0063", 0, 6, 0);
        // Behind the milking it eats.
        milkedIs("MG04K0090", 1, 9, 0);
        milkedIs("MG05K0090", 2, 9, 0);
    }

    /** "each COW that is DUE is milked", and no other, where a bell stopped it. */
    private static void notMilkedBelowDue() {
        milkedIs("MK0050", 5, 0, 0);
        milkedIs("MK0081", 8, 0, 0);
        milkedIs("MK0092", 9, 0, 0);
        milkedIs("MK0053", 5, 0, 0);
        milkedIs("MK0050K1190", 5, 0, 9);
    }

    /** "the COW is 1 more full (2 more, if there was 5 or more ..)", "that is 1 less" */
    private static void eatsByHowMuchThereIs() {
        for (int clover = 1; clover <= 9; clover++) {
            MilkTruce x = Due.pass("MG0" + clover + "K0000");
            x.hour(false);
            T.due("full of " + clover, x.cow(0, 2), clover >= 5 ? 2 : 1);
            T.due("left of " + clover, x.clover(0), clover - 1);
        }
    }

    /** "(.. 9 at most)" */
    private static void eatsNineAtMost() {
        int[] full = {6, 7, 8, 9};
        int[] ofFour = {7, 8, 9, 9};
        int[] ofFive = {8, 9, 9, 9};
        for (int i = 0; i < full.length; i++) {
            MilkTruce four = Due.pass("MG04K00" + full[i] + "2");
            four.hour(false);
            T.due(full[i] + " full eats of 4", four.cow(0, 2), ofFour[i]);
            T.due("left of 4", four.clover(0), 3);
            MilkTruce five = Due.pass("MG05K00" + full[i] + "2");
            five.hour(false);
            T.due(full[i] + " full eats of 5", five.cow(0, 2), ofFive[i]);
            T.due("left of 5", five.clover(0), 4);
        }
    }

    /** "if there is CLOVER on its CELL" */
    private static void emptyCellFeedsNone() {
        MilkTruce x = Due.pass("MG11G91K0000");
        x.hour(false);
        T.due("where no clover is", x.cow(0, 2), 0);
        T.due("no clover is less than none", x.clover(0), 0);
        T.due("clover where no cow is", x.clover(1), 1);
        T.due("clover on the last cell", x.clover(9), 1);
        x.move(0, 9);
        x.hour(false);
        x.hour(false);
        T.due("one clover feeds once", x.cow(0, 2), 1);
        T.due("none is left", x.clover(9), 0);
    }

    /** "Then, but for SNOW, each COW .. eats" */
    private static void snowFeedsNone() {
        MilkTruce x = Due.pass("MG05K0091");
        x.snow();
        x.hour(false);
        x.hour(true);
        T.due("full in snow", x.cow(0, 2), 9);
        T.due("due in snow", x.cow(0, 4), 1);
        T.due("clover in snow", x.clover(0), 5);
        T.due("pails in snow", x.count(4), 0);
        T.due("the hour in snow", x.count(2), 2);
    }

    private static void hoursOfNoCows() {
        MilkTruce x = new MilkTruce();
        T.due("no cows: hour(false)", x.hour(false), 0);
        T.due("no cows: hour(true)", x.hour(true), 1);
        T.due("no cows: the hour", x.count(2), 2);
        T.due("no cows: hours of war", x.count(6), 1);
        T.due("no cows: pails of side 0", x.count(4), 0);
        T.due("no cows: pails of side 1", x.count(5), 0);
    }

    private static void hoursOfSixCows() {
        MilkTruce x = Due.pass("MG05G95K0060K1190K2191K3192K4181K9063");
        T.due("six cows: hour", x.hour(false), 1);
        T.due("six cows: pails of side 0", x.count(4), 12);
        T.due("six cows: pails of side 1", x.count(5), 18);
        int[] full = {2, 0, 0, 9, 8, 2};
        for (int cow = 0; cow < full.length; cow++) {
            T.due("six cows: full of cow " + cow, x.cow(cow, 2), full[cow]);
        }
        T.due("six cows: the next hour", x.hour(false), 0);
    }

    /** "on another CELL where no COW is"; "STATE: a COW is there" */
    private static void movedWhereACowIs() {
        MilkTruce x = Due.pass("MK0050K9150");
        T.due("move(0, 9), the other is there", x.move(0, 9), STATE);
        T.due("move(1, 0), the other is there", x.move(1, 0), STATE);
        T.due("move(0, 0), it is there itself", x.move(0, 0), STATE);
        T.due("no act", x.count(8), 0);
        T.due("move(0, 1)", x.move(0, 1), 0);
        T.due("move(1, 0), where none is any more", x.move(1, 0), 9);
        T.due("move(0, 9), where none is any more", x.move(0, 9), 1);
    }

    private static void movedWithAllCellsTried() {
        for (int cell = 0; cell <= 9; cell++) {
            MilkTruce x = Due.pass(Scene.SIX_COWS);
            T.due("of six cows the last to cell " + cell, x.move(5, cell), cell < 6 ? STATE : 5);
            T.due("it is there", x.cow(5, 0), cell < 6 ? 5 : cell);
        }
    }

    /** "a CELL has one CLOVER more (9 at most)"; "FULL: there are 9" */
    private static void cloverAtNine() {
        MilkTruce x = Due.pass("MG99");
        for (int clover = 1; clover <= 9; clover++) {
            T.due("sow(0), the " + clover + ".", x.sow(0), clover);
        }
        T.due("sow(0), the 10.", x.sow(0), FULL);
        T.due("sow(0), the 11.", x.sow(0), FULL);
        T.due("clover(0)", x.clover(0), 9);
        T.due("sow(9) on 9 of the text", x.sow(9), FULL);
        T.due("clover(9)", x.clover(9), 9);
        T.due("the sown alone are acts", x.count(8), 9);
        T.due("undo of the last", x.undo(), 8);
        T.due("sow(0) again", x.sow(0), 9);
    }

    /** "1 if there is some then, 0" */
    private static void snowComesAndGoes() {
        MilkTruce x = new MilkTruce();
        for (int i = 1; i <= 5; i++) {
            T.due("snow, the " + i + ".", x.snow(), i % 2);
            T.due("count(3) behind it", x.count(3), i % 2);
        }
    }

    /** "a row (14 at most ..)" */
    private static void rowIsFull() {
        MilkTruce x = new MilkTruce();
        for (int i = 1; i <= 14; i++) {
            x.hour(false);
            T.due("acts behind the " + i + ".", x.count(8), i);
        }
        for (int left = 13; left >= 0; left--) {
            T.due("undo of a full row", x.undo(), left);
            T.due("the hour then", x.count(2), left);
        }
        T.due("one undo more", x.undo(), STATE);
        T.due("the hour is the first again", x.count(2), 0);
    }

    /** "of more the first one is forgotten" */
    private static void rowForgetsTheFirst() {
        for (int more = 1; more <= 30; more++) {
            MilkTruce x = new MilkTruce();
            for (int i = 0; i < 14 + more; i++) {
                x.hour(false);
            }
            T.due("acts behind 14 and " + more, x.count(8), 14);
            for (int left = 13; left >= 0; left--) {
                T.due("undo behind 14 and " + more, x.undo(), left);
            }
            T.due("one undo more behind 14 and " + more, x.undo(), STATE);
            T.due("the hour that is left of 14 and " + more, x.count(2), more);
        }
    }

    private static void act(MilkTruce x, int which) {
        switch (which) {
            case 0 -> x.hour(false);
            case 1 -> x.hour(true);
            case 2 -> x.move(0, 5);
            case 3 -> x.sow(7);
            default -> x.snow();
        }
    }

    /** "ACTS (HOURS, RUNG ones, too, MOVED, SOWN, SNOW)": each as the only one, as the 14th, as one more. */
    private static void rowOfEachAct() {
        for (int which = 0; which <= 4; which++) {
            for (int before : new int[] {0, 13, 14}) {
                MilkTruce x = Due.pass("MG09K0070");
                for (int i = 0; i < before; i++) {
                    x.sow(1 + i % 3);
                }
                String seen = Due.lookButActs(x);
                act(x, which);
                T.due("act " + which + " behind " + before, x.count(8), Math.min(before + 1, 14));
                T.due("it changed something", Due.lookButActs(x).equals(seen) ? 1 : 0, 0);
                int left = Math.min(before, 13);
                T.due("undo of act " + which + " behind " + before, x.undo(), left);
                T.due("all is as it was ahead of act " + which, Due.lookButActs(x).equals(seen) ? 1 : 0, 1);
            }
        }
    }

    /** "What is refused changes nothing", the full row of acts least of all. */
    private static void refusedActsAreNoActs() {
        MilkTruce x = Due.pass("MG09K0000");
        x.snow();
        for (int i = 0; i < 14; i++) {
            x.hour(false);
        }
        x.move(0, 0);
        x.move(1, 1);
        x.move(0, 10);
        x.sow(0);
        x.sow(10);
        T.due("acts behind refused ones", x.count(8), 14);
        for (int left = 13; left >= 0; left--) {
            T.due("undo behind refused ones", x.undo(), left);
        }
        T.due("none was forgotten for a refused one", x.count(2), 0);
        T.due("the snow was the one forgotten", x.count(3), 1);
    }

    /** "STATE: there is none." */
    private static void noActLeft() {
        MilkTruce x = Due.pass("MG03K0000");
        T.due("undo of none", x.undo(), STATE);
        x.sow(0);
        T.due("undo of one", x.undo(), 0);
        T.due("undo of none then", x.undo(), STATE);
        T.due("undo of none again", x.undo(), STATE);
        T.due("clover", x.clover(0), 3);
        T.due("acts", x.count(8), 0);
        T.due("an act behind it", x.sow(0), 4);
        T.due("undo of it", x.undo(), 0);
        T.due("clover behind it", x.clover(0), 3);
    }

    private static void undoneBehindUndone() {
        MilkTruce x = Due.pass("M");
        for (int i = 0; i < 16; i++) {
            x.sow(i % 10);
        }
        x.undo();
        x.undo();
        x.sow(9);
        x.sow(9);
        x.sow(9);
        T.due("the row is full again", x.count(8), 14);
        for (int left = 13; left >= 0; left--) {
            x.undo();
        }
        T.due("cell 0: sown first", x.clover(0), 1);
        T.due("cell 1: sown second", x.clover(1), 1);
        T.due("cell 2: sown third, forgotten by the one too many", x.clover(2), 1);
        T.due("cell 3: undone", x.clover(3), 0);
        T.due("cell 9: undone", x.clover(9), 0);
    }

    /** "STATE: none were kept." */
    private static void slotNeverKept() {
        for (int slot = 0; slot <= 1; slot++) {
            MilkTruce x = Due.pass("MG03K0000");
            x.hour(false);
            T.due("again(" + slot + "), none was kept", x.again(slot), STATE);
            x.keep(1 - slot);
            T.due("again(" + slot + "), the other was kept", x.again(slot), STATE);
            T.due("the hour", x.count(2), 1);
            T.due("acts", x.count(8), 1);
            T.due("again of the other", x.again(1 - slot), 1);
            x.keep(slot);
            T.due("again(" + slot + ") then", x.again(slot), 1);
        }
    }

    private static void keptTwice() {
        MilkTruce x = Due.pass("MG03K0000");
        T.due("keep(1)", x.keep(1), 0);
        x.hour(false);
        T.due("keep(1) once more", x.keep(1), 1);
        x.hour(false);
        T.due("again(1)", x.again(1), 1);
        T.due("full as kept the second time", x.cow(0, 2), 1);
        T.due("clover as kept the second time", x.clover(0), 2);
    }

    private static void wentOnTwice() {
        MilkTruce x = Due.pass("MG09K0070");
        x.keep(0);
        for (int i = 0; i < 3; i++) {
            T.due("hour from what was kept", x.hour(false), 1);
            x.sow(4);
            x.snow();
            x.move(0, 8);
            T.due("again(0)", x.again(0), 0);
            T.due("pails then", x.count(4), 0);
            T.due("full then", x.cow(0, 2), 7);
            T.due("cell then", x.cow(0, 0), 0);
            T.due("clover sown then", x.clover(4), 0);
            T.due("snow then", x.count(3), 0);
        }
    }

    /** "(THE ROW of ACTS is empty when one goes on)", but not when they are kept. */
    private static void rowIsEmptyBehindAgain() {
        MilkTruce x = new MilkTruce();
        for (int i = 0; i < 20; i++) {
            x.hour(false);
        }
        T.due("keep", x.keep(0), 20);
        T.due("acts behind keep", x.count(8), 14);
        T.due("again", x.again(0), 20);
        T.due("acts behind again", x.count(8), 0);
        T.due("undo behind again", x.undo(), STATE);
        T.due("the hour stays", x.count(2), 20);
        x.hour(false);
        T.due("undo of an act behind again", x.undo(), 0);
        T.due("the hour as it was kept", x.count(2), 20);
    }

    private static void keptOfNoCows() {
        MilkTruce x = new MilkTruce();
        T.due("keep(0) of a new object", x.keep(0), 0);
        x.snow();
        x.hour(true);
        T.due("keep(1)", x.keep(1), 1);
        T.due("again(0)", x.again(0), 0);
        T.due("snow of slot 0", x.count(3), 0);
        T.due("again(1)", x.again(1), 1);
        T.due("snow of slot 1", x.count(3), 1);
        T.due("cows", x.count(1), 0);
    }

    /** "SLOTS 0 to 1 keep CLOVER, COWS, SNOW, PAILS, HOURS" */
    private static void keptIsAllOfThem() {
        for (int slot = 0; slot <= 1; slot++) {
            MilkTruce x = Due.pass("MG09K0060K1170");
            x.hour(false);
            x.hour(false);
            x.move(1, 3);
            x.snow();
            x.keep(slot);
            String seen = Due.lookButActs(x);
            x.snow();
            x.move(0, 9);
            x.move(1, 0);
            for (int i = 0; i < 9; i++) {
                x.hour(i == 4);
                x.sow(i);
            }
            T.due("much is other than kept", Due.lookButActs(x).equals(seen) ? 1 : 0, 0);
            T.due("again(" + slot + ")", x.again(slot), 2);
            T.due("all is as kept in " + slot, Due.lookButActs(x).equals(seen) ? 1 : 0, 1);
            T.due("hours of war as kept in " + slot, x.count(6), 1);
            T.due("pails of side 0 as kept in " + slot, x.count(4), 6);
            T.due("pails of side 1 as kept in " + slot, x.count(5), 7);
            T.due("snow as kept in " + slot, x.count(3), 1);
        }
    }

    private static void countsAre(String when, MilkTruce x, int[] want) {
        for (int what = 0; what < want.length; what++) {
            T.due(when + ": count(" + what + ")", x.count(what), want[what]);
        }
        T.due(when + ": count(10)", x.count(want.length), MilkTruce.OUTSIDE);
        T.due(when + ": count(-1)", x.count(-1), MilkTruce.OUTSIDE);
    }

    private static void countsAtTheirLeast() {
        countsAre("a new object", new MilkTruce(), new int[] {0, 0, 0, 0, 0, 0, 0, 0, 0, 0});
        countsAre("the pass M", Due.pass("M"), new int[] {1, 0, 0, 0, 0, 0, 0, 0, 0, 0});
    }

    private static void countsAtTheirMost() {
        MilkTruce x = Due.pass("MK0090K1190K2090K3190K4090K5190");
        while (x.count(0) < 64) {
            x.write('M');
        }
        x.write('M');
        for (int i = 0; i < 7; i++) {
            x.tell(5, 7, false);
        }
        for (int i = 0; i < 15; i++) {
            x.hour(false);
        }
        x.snow();
        countsAre("six cows", x, new int[] {64, 6, 15, 1, 27, 27, 14, 3, 14, 6});
    }
}
