/** The edges that the document names for what is ahead: a test for each. */
public final class EdgesAheadTest {
    private static final Due T = new Due("EdgesAheadTest");
    private static final int NONE = MilkTruce.NONE, OUTSIDE = MilkTruce.OUTSIDE;
    /** One cow that stops HOUR 2 and HOUR 5 from now on. */
    private static final String ONE = "MG09K0050";
    /** One cow that stops HOUR 4 and HOUR 8 from now on. */
    private static final String LATE = "MG09K0010";
    /** Five on the cells 1 to 5, none of which ever is due: only cow 5, on cell 0, can stop an hour. */
    private static final String LAST_OF_SIX = "K1002K2002K3002K4002K5002K0050";

    public static void main(String[] args) {
        sortsOfOneAndEight();
        sortsOfAllKinds();
        onOfOneAndEight();
        milkOfOneAndEight();
        grazeOfNoCows();
        grazeOfLikeOnesNone();
        grazeToTheFirstCellAndTheLast();
        grazeOfTheFirstCowAndTheLast();
        grazeOfSixCows();
        grazeOfOneHour();
        fewestOfNoneSown();
        fewestOfOneToThreeSown();
        fewestOfFourSown();
        fewestWhereCloverIsNine();
        fewestTheLeastRow();
        fewestOfNoCows();
        judgeOfTheFirstAndTheLast();
        judgeOfFiguresThatAreNoSort();
        judgeOfFewerFigures();
        shareOfOneCow();
        shareOfSixCows();
        shareInLeastTerms();
        shareOfNothing();
        allInSnow();
        T.end();
    }

    /** "SORTS of n HOURS (1 to 8)", "as n figures" */
    private static void sortsOfOneAndEight() {
        int[] ofOne = {0, 1, 10, 100, 1001, 10010, 100100, 1001000};
        int[] ofDue = {1, 10, 100, 1000, 10000, 100000, 1000000, 10000000};
        for (int n = 1; n <= 8; n++) {
            int hours = n;
            Scene.answers(T, ONE, "sorts(" + n + ")", ofOne[n - 1], x -> x.sorts(hours));
            Scene.answers(T, "MK0060", "sorts(" + n + ")", ofDue[n - 1], x -> x.sorts(hours));
            Scene.answers(T, "M", "sorts(" + n + ")", 0, x -> x.sorts(hours));
        }
    }

    private static void sortsOfAllKinds() {
        Scene.answers(T, "MK0053", "sorts(8)", 22222222, x -> x.sorts(8));
        Scene.answers(T, "MG03K0043", "sorts(8)", 2100000, x -> x.sorts(8));
        Scene.answers(T, "MG09K0071", "sorts(8)", 1000010, x -> x.sorts(8));
        Scene.answers(T, "MG09K0092", "sorts(8)", 0, x -> x.sorts(8));
    }

    /** "ON: how many of n HOURS are WAR." */
    private static void onOfOneAndEight() {
        int[] want = {1, 1, 2, 3, 3, 4, 5, 6};
        for (int n = 1; n <= 8; n++) {
            int hours = n;
            Scene.answers(T, ONE, "on(" + n + ")", want[n - 1], x -> x.on(hours));
            Scene.answers(T, "M", "on(" + n + ")", n, x -> x.on(hours));
            Scene.answers(T, "MK0053", "on(" + n + ")", 0, x -> x.on(hours));
        }
        // One stops HOUR 1, the other HOUR 4 and HOUR 8.
        Scene.answers(T, "MG99K0060K9100", "on(8)", 5, x -> x.on(8));
    }

    /** "PAILS that come in n HOURS": those of the last hour, too, and not those that came. */
    private static void milkOfOneAndEight() {
        int[] want = {0, 7, 7, 7, 13, 13, 13, 13};
        for (int n = 1; n <= 8; n++) {
            int hours = n;
            Scene.answers(T, ONE, "milk(0, " + n + ")", want[n - 1], x -> x.milk(0, hours));
            Scene.answers(T, ONE, "milk(1, " + n + ")", 0, x -> x.milk(1, hours));
            Scene.answers(T, "MG09K0150", "milk(1, " + n + ")", want[n - 1], x -> x.milk(1, hours));
            Scene.answers(T, "M", "milk(0, " + n + ")", 0, x -> x.milk(0, hours));
        }
        Scene.answers(T, "MK0190K1190K2190K3190K4190K5190", "milk(1, 1)", 54, x -> x.milk(1, 1));
        MilkTruce x = Due.pass("MK0060K1190");
        x.hour(false);
        T.due("milk(0, 8) of what came", x.milk(0, 8), 0);
        T.due("milk(1, 8) of what came", x.milk(1, 8), 0);
    }

    private static void grazeIs(String letters, int side, int n, boolean most, int[] want) {
        for (int what = 0; what <= 2; what++) {
            int asked = what;
            String call = "graze(" + side + ", " + n + ", " + most + ", " + what + ")";
            Scene.answers(T, letters, call, want[what], x -> x.graze(side, n, most, asked));
        }
    }

    /** "(what = 0; NONE)", "(1; NONE)": a side that has no cow. */
    private static void grazeOfNoCows() {
        for (int side = 0; side <= 1; side++) {
            for (int n = 1; n <= 8; n++) {
                grazeIs("M", side, n, true, new int[] {NONE, NONE, n});
                grazeIs("MG99", side, n, false, new int[] {NONE, NONE, n});
            }
        }
        grazeIs("MG09K1150", 0, 8, false, new int[] {NONE, NONE, 8});
        grazeIs("MG09K1050", 1, 8, false, new int[] {NONE, NONE, 8});
    }

    /** "of like ones none" */
    private static void grazeOfLikeOnesNone() {
        grazeIs("MK0000", 0, 8, true, new int[] {NONE, NONE, 8});
        grazeIs("MK0000", 0, 8, false, new int[] {NONE, NONE, 8});
        grazeIs("MK0060", 0, 8, true, new int[] {NONE, NONE, 7});
        grazeIs("MG09G99K0050", 0, 8, false, new int[] {NONE, NONE, 6});
    }

    /** "then the least COW, then the least CELL" */
    private static void grazeToTheFirstCellAndTheLast() {
        grazeIs("MG09K5050", 0, 8, false, new int[] {0, 0, 6});
        grazeIs("MG99K5050", 0, 8, false, new int[] {0, 9, 6});
        grazeIs("MG09G99K5050", 0, 8, false, new int[] {0, 0, 6});
        grazeIs("MG99K9050", 0, 8, true, new int[] {0, 0, 8});
        grazeIs("MG09G19G29G39G49G59G69G79G89K0050", 0, 8, true, new int[] {0, 9, 8});
        grazeIs("MG09G19G29G39G49G59G69G79G89G99K0050", 0, 8, true, new int[] {NONE, NONE, 6});
        // Not to where a cow is.
        grazeIs("MG09K5050K0102", 0, 8, false, new int[] {NONE, NONE, 8});
    }

    private static void grazeOfTheFirstCowAndTheLast() {
        grazeIs("MG69K0050K1050K2050K3050K4050K5050", 0, 8, false, new int[] {0, 6, 6});
        grazeIs("MG99" + LAST_OF_SIX, 0, 8, false, new int[] {5, 9, 6});
        grazeIs("MG99K1102K0150", 1, 8, false, new int[] {1, 9, 6});
        // Two cows to one cell, or one cow to two cells: the least cow first.
        grazeIs("MG69G79K0050K1050", 0, 8, false, new int[] {0, 6, 6});
        grazeIs("MG69K0002K1050K2050", 0, 8, false, new int[] {1, 6, 6});
        // A later cow to the first cell.
        grazeIs("MG09K1002K2050", 0, 8, false, new int[] {1, 0, 6});
        grazeIs("MG09K1002K2002K3002K4002K5002K6050", 0, 8, false, new int[] {5, 0, 6});
    }

    private static void grazeOfSixCows() {
        String letters = "MG99K0050K1150K2050K3150K4050K5150";
        grazeIs(letters, 0, 8, false, new int[] {0, 9, 6});
        grazeIs(letters, 1, 8, false, new int[] {1, 9, 6});
        grazeIs(letters, 0, 8, true, new int[] {NONE, NONE, 8});
        grazeIs(letters, 1, 1, false, new int[] {NONE, NONE, 1});
        MilkTruce x = Due.pass(letters);
        for (int i = 0; i < 30; i++) {
            T.due("asked " + i + " times before: cow of side 0", x.graze(0, 8, false, 0), 0);
            T.due("asked " + i + " times before: cow of side 1", x.graze(1, 8, false, 0), 1);
        }
    }

    private static void grazeOfOneHour() {
        // One hour is not enough for what it eats to stop it, two are.
        grazeIs("MG99K0050", 0, 1, false, new int[] {NONE, NONE, 1});
        grazeIs("MG99K0050", 0, 2, false, new int[] {0, 9, 1});
        grazeIs("MK0060", 0, 1, true, new int[] {NONE, NONE, 0});
    }

    private static void fewestIs(String letters, int n, int many, int row) {
        Scene.answers(T, letters, "fewest(" + n + ", false)", many, x -> x.fewest(n, false));
        Scene.answers(T, letters, "fewest(" + n + ", true)", row, x -> x.fewest(n, true));
    }

    /** "(1: none ..)" */
    private static void fewestOfNoneSown() {
        fewestIs("MK0060", 1, 0, 1);
        fewestIs(LATE, 4, 0, 1);
        fewestIs(LATE, 8, 0, 1);
    }

    /** "the fewest CLOVER SOWN now (0 to 3 ..)", "as figures behind a 1" */
    private static void fewestOfOneToThreeSown() {
        fewestIs("MK0050", 2, 1, 10);
        fewestIs("MK0040", 3, 2, 100);
        fewestIs("MK0030", 4, 3, 1000);
        fewestIs("MK9050", 2, 1, 19);
        fewestIs("MK9040", 3, 2, 199);
        fewestIs("MK9030", 4, 3, 1999);
    }

    /** "NONE": four would have to be sown, or it is not the hour. */
    private static void fewestOfFourSown() {
        fewestIs("MK0020", 5, NONE, NONE);
        fewestIs("MK9020", 5, NONE, NONE);
        fewestIs("MG01K0020", 5, 3, 1000);
        fewestIs("MK0060", 2, NONE, NONE);
        fewestIs("MK0050", 1, NONE, NONE);
        fewestIs("MK0050", 3, NONE, NONE);
        fewestIs("MK0092", 1, NONE, NONE);
        fewestIs("MK0081", 2, 1, 10);
    }

    /** "on any CELLS, as far as they may have more" */
    private static void fewestWhereCloverIsNine() {
        // With 10 clover it would stop in HOUR 7; with 9 it does in HOUR 8.
        fewestIs("MG09K0010", 7, NONE, NONE);
        fewestIs("MG08K0010", 7, NONE, NONE);
        fewestIs("MG07K0010", 7, NONE, NONE);
        fewestIs("MG08K0010", 8, 1, 10);
        fewestIs("MG07K0010", 8, 2, 100);
        fewestIs("MG06K0010", 8, 3, 1000);
        fewestIs("MG05K0010", 8, NONE, NONE);
    }

    /** "the first such row of CELLS .., the least as a number" */
    private static void fewestTheLeastRow() {
        fewestIs("MK9050K0050", 2, 1, 10);
        fewestIs("MK9050K8150", 2, 1, 18);
        fewestIs("MK9040K3040", 3, 2, 133);
        fewestIs("MK9030K8030", 4, 3, 1888);
        // Fewer on a later cell go ahead of more on an earlier one.
        fewestIs("MG91K0040K9040", 3, 1, 19);
    }

    private static void fewestOfNoCows() {
        for (int n = 1; n <= 8; n++) {
            fewestIs("M", n, NONE, NONE);
            fewestIs("MG09G99", n, NONE, NONE);
        }
    }

    /** "the place of the first that is of another SORT; NONE: none" */
    private static void judgeOfTheFirstAndTheLast() {
        int place = 0;
        for (int worth = 10000000; worth >= 1; worth /= 10) {
            int row = 22222222 - worth;
            int want = place;
            Scene.answers(T, "MK0053", "judge(8, " + row + ")", want, x -> x.judge(8, row));
            place++;
        }
        Scene.answers(T, "MK0053", "judge(8, 22222222)", NONE, x -> x.judge(8, 22222222));
        Scene.answers(T, "MK0053", "judge(8, 11111111)", 0, x -> x.judge(8, 11111111));
        Scene.answers(T, "M", "judge(8, 0)", NONE, x -> x.judge(8, 0));
        Scene.answers(T, "M", "judge(8, 1)", 7, x -> x.judge(8, 1));
        Scene.answers(T, "M", "judge(1, 0)", NONE, x -> x.judge(1, 0));
        Scene.answers(T, "M", "judge(1, 1)", 0, x -> x.judge(1, 1));
    }

    /** "row (0 or more, n figures at most)": 4 to 9 are figures, but no sort. */
    private static void judgeOfFiguresThatAreNoSort() {
        for (int figure = 0; figure <= 9; figure++) {
            int row = figure;
            Scene.answers(T, "MK0060", "judge(1, " + row + ")", figure == 1 ? NONE : 0, x -> x.judge(1, row));
        }
        Scene.answers(T, "MK0060", "judge(8, 99999999)", 0, x -> x.judge(8, 99999999));
        Scene.answers(T, "MK0060", "judge(1, 10)", OUTSIDE, x -> x.judge(1, 10));
    }

    /** Figures that are not told are 0, the first hours'. */
    private static void judgeOfFewerFigures() {
        Scene.answers(T, "MG01K0050", "judge(3, 10)", NONE, x -> x.judge(3, 10));
        Scene.answers(T, "MG01K0050", "judge(3, 1)", 1, x -> x.judge(3, 1));
        Scene.answers(T, "MG01K0050", "judge(3, 100)", 0, x -> x.judge(3, 100));
        Scene.answers(T, "MK0060", "judge(3, 0)", 0, x -> x.judge(3, 0));
    }

    private static void shareIs(String letters, int cow, int n, int above, int below) {
        Scene.answers(T, letters, "share(" + cow + ", " + n + ", true)", above, x -> x.share(cow, n, true));
        Scene.answers(T, letters, "share(" + cow + ", " + n + ", false)", below, x -> x.share(cow, n, false));
    }

    private static void shareOfOneCow() {
        shareIs("MK0060", 0, 1, 1, 1);
        shareIs("MK0060", 0, 8, 1, 1);
        shareIs(ONE, 0, 1, 0, 1);
        shareIs(ONE, 0, 2, 1, 1);
        shareIs(ONE, 0, 8, 2, 1);
    }

    private static void shareOfSixCows() {
        String letters = "MK0060K1160K2060K3191K4060K5063";
        for (int cow = 0; cow <= 5; cow++) {
            shareIs(letters, cow, 1, 1, 6);
            shareIs(letters, cow, 8, 1, 6);
            shareIs(Scene.SIX_COWS, cow, 8, 0, 1);
        }
        // The last of six stops two hours more: alone, and whoever was there.
        shareIs("MG09K1002K2002K3002K4002K5002K0050", 5, 8, 2, 1);
        shareIs("MG09K1002K2002K3002K4002K5002K0050", 0, 8, 0, 1);
    }

    /** "in least terms" */
    private static void shareInLeastTerms() {
        // Both stop the same two hours: 2 of 2.
        shareIs("MG09G19K0050K1150", 0, 8, 1, 1);
        shareIs("MG09G19K0050K1150", 1, 5, 1, 1);
        // Four stop the same two hours: 2 of 4.
        shareIs("MG09G19G29G39K0050K1150K2050K3050", 3, 8, 1, 2);
        // Three stop HOUR 2, one of them HOUR 5, too: 1 of 3, and 1.
        shareIs("MG09G21G31K0050K2050K3050", 0, 8, 4, 3);
        shareIs("MG09G21G31K0050K2050K3050", 1, 8, 1, 3);
    }

    /** A share that is nothing is 0 of 1. */
    private static void shareOfNothing() {
        shareIs("MK0000", 0, 8, 0, 1);
        shareIs("MK0092K1060", 0, 8, 0, 1);
        shareIs("MK0053K1060", 0, 8, 0, 1);
    }

    /** "with SNOW, or without, as it is now" */
    private static void allInSnow() {
        MilkTruce x = Due.pass("MG09K0060");
        x.snow();
        T.due("snow: sorts(1)", x.sorts(1), 3);
        T.due("snow: sorts(8)", x.sorts(8), 33333333);
        T.due("snow: on(8)", x.on(8), 0);
        T.due("snow: milk(0, 8)", x.milk(0, 8), 0);
        T.due("snow: graze to the most", x.graze(0, 8, true, 0), NONE);
        T.due("snow: graze to the least", x.graze(0, 8, false, 1), NONE);
        T.due("snow: graze on", x.graze(0, 8, false, 2), 0);
        T.due("snow: fewest(1, false)", x.fewest(1, false), NONE);
        T.due("snow: fewest(8, true)", x.fewest(8, true), NONE);
        T.due("snow: judge(8, 33333333)", x.judge(8, 33333333), NONE);
        T.due("snow: judge(8, 33333330)", x.judge(8, 33333330), 7);
        T.due("snow: judge(1, 3)", x.judge(1, 3), NONE);
        T.due("snow: share above", x.share(0, 8, true), 0);
        T.due("snow: share below", x.share(0, 8, false), 1);
        T.due("the snow is there yet", x.count(3), 1);
    }
}
