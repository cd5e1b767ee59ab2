/** Promises 24 to 27: two sides at rest, snow by chance, summers by a seed. */
public final class SidesTest {
    private static final Due T = new Due("SidesTest");
    /** One cow that stops HOUR 2 and HOUR 5 from now on. */
    private static final String ONE = "MG09K0050";

    public static void main(String[] args) {
        rests();
        restsOfNone();
        chance();
        seed();
        summers();
        summersThatSnow();
        nothingIsChanged();
        T.end();
    }

    private static void restsAre(String letters, int n, int many, int first) {
        MilkTruce x = Due.pass(letters);
        T.due(letters + ": rests(" + n + ", 0)", x.rests(n, 0), many);
        T.due(letters + ": rests(" + n + ", 1)", x.rests(n, 1), first);
    }

    private static void rests() {
        restsAre("M", 8, 1, 0);
        // Side 0 goes to any of the 9 cells without clover.
        restsAre(ONE, 8, 9, 2000);
        // Side 1 stays where it stops most.
        restsAre("MG09K0150", 8, 1, 0);
        // Side 0 goes to one of 8 cells, side 1 to another one, or to none.
        restsAre("MG09K0050K1100", 8, 64, 3000);
        // One of them is on the clover: side 1 that stops there, or side 0 that keeps it away;
        // the other one moves to one of 7 cells, or not.
        restsAre("MG29K0000K1150", 2, 16, 13);
        // Side 0 stays away from the clover that is everywhere else.
        restsAre("MG19G29G39G49G59G69G79G89G99K0050", 8, 1, 0);
        // Side 1's second cow goes to the clover on cell 0.
        restsAre("MG09K1102K2150", 8, 1, 11);
        MilkTruce x = Due.pass(ONE);
        T.due("rests(0, 0)", x.rests(0, 0), MilkTruce.OUTSIDE);
        T.due("rests(9, 1)", x.rests(9, 1), MilkTruce.OUTSIDE);
        T.due("rests(8, 2)", x.rests(8, 2), MilkTruce.OUTSIDE);
        T.due("rests(8, -1)", x.rests(8, -1), MilkTruce.OUTSIDE);
        x.snow();
        T.due("rests in snow: all", x.rests(8, 0), 10);
        T.due("rests in snow: none moves", x.rests(8, 1), 0);
    }

    private static void restsOfNone() {
        // What each side would change for the other one's choice goes round.
        restsAre("MG05G26G67G86G99K6080K9100K2090K1112K7012", 5, 0, MilkTruce.NONE);
        restsAre("MG06G16G28G53K6150K5151K8092K2091K0050K4170", 8, 0, MilkTruce.NONE);
    }

    private static void chanceIs(MilkTruce x, int n, int tenths, int above, int below) {
        T.due("chance(" + n + ", " + tenths + ", true)", x.chance(n, tenths, true), above);
        T.due("chance(" + n + ", " + tenths + ", false)", x.chance(n, tenths, false), below);
    }

    private static void chance() {
        MilkTruce x = Due.pass(ONE);
        for (int i = 0; i < 2; i++) {
            chanceIs(x, 1, 0, 0, 1);
            chanceIs(x, 2, 0, 1, 1);
            chanceIs(x, 2, 10, 0, 1);
            chanceIs(x, 2, 5, 1, 4);
            chanceIs(x, 2, 3, 49, 100);
            // The hour that it snows is one of the first two: 2 times 3 times 7 times 7 of 1000.
            chanceIs(x, 3, 3, 147, 500);
            // It is as it was with snow now: each hour has its own.
            x.snow();
        }
        chanceIs(Due.pass("MK0060"), 1, 1, 9, 10);
        chanceIs(Due.pass("MK0060"), 6, 5, 1, 64);
        chanceIs(x, 0, 5, MilkTruce.OUTSIDE, MilkTruce.OUTSIDE);
        chanceIs(x, 7, 5, MilkTruce.OUTSIDE, MilkTruce.OUTSIDE);
        chanceIs(x, 2, -1, MilkTruce.OUTSIDE, MilkTruce.OUTSIDE);
        chanceIs(x, 2, 11, MilkTruce.OUTSIDE, MilkTruce.OUTSIDE);
    }

    private static void seed() {
        MilkTruce x = new MilkTruce();
        T.due("seed(5)", x.seed(5), 0);
        T.due("seed(-7)", x.seed(-7), 5);
        T.due("seed(MIN)", x.seed(Long.MIN_VALUE), -7);
        T.due("seed(0)", x.seed(0), Long.MIN_VALUE);
    }

    private static void summersAre(String letters, long seed, int hours, int want, long seedThen) {
        MilkTruce x = Due.pass(letters);
        for (int i = 0; i < 2; i++) {
            x.seed(seed);
            T.due(letters + ": summers(" + hours + ") by " + seed, x.summers(hours), want);
            T.due(letters + ": the seed then", x.seed(0), seedThen);
            // Whether there is snow now says nothing of the hours that come.
            x.snow();
        }
    }

    private static void summers() {
        summersAre("M", 2, 1, 1000, -4275776585127002199L);
        summersAre("MG09K0050", 0, 30, 1019, -7345197285147560642L);
        summersAre("MG09K0050K1190", 1, 1, 991, 7806831264735756412L);
        summersAre("MG09G19K0050K1153K8081K9062", -5, 30, 1000, 3160620536766699265L);
        summersAre("MG39G19K0150K1151K8181K3163", 12345, 30, 943, 8359512117883852687L);
        summersAre("MG99K9000", 8, 12, 1012, -4985995345860590492L);
        summersAre("MG99K9160", 8, 1, 994, -2984447389465347401L);
        MilkTruce x = Due.pass("MG09K0070");
        x.hour(false);
        x.seed(1);
        T.due("pails that came are not counted", x.summers(1), 1000);
        MilkTruce y = Due.pass("MK0180");
        y.hour(false);
        y.seed(1);
        T.due("nor those of side 1", y.summers(1), 1000);
    }

    private static void summersThatSnow() {
        // The cow that is due is milked in the hour, but if it snows.
        long[] seeds = {2, 10, 36, 6, 5, 3};
        int[] want = {1006, 1006, 1000, 1000, 1006, 1006};
        for (int i = 0; i < seeds.length; i++) {
            MilkTruce x = Due.pass("MK0060");
            x.seed(seeds[i]);
            T.due("summers(1) by " + seeds[i], x.summers(1), want[i]);
        }
        // A cell is sown ahead of the hour: the cow on it eats in it, and is due in the next.
        MilkTruce z = Due.pass("MK7150");
        z.seed(56);
        T.due("summers(2)", z.summers(2), 994);
    }

    private static void nothingIsChanged() {
        MilkTruce x = Due.pass("MG09G11K0050K5143");
        x.hour(false);
        x.seed(4);
        String seen = Due.look(x);
        x.rests(8, 0);
        x.rests(8, 1);
        x.chance(6, 5, true);
        T.due("summers(31)", x.summers(31), MilkTruce.OUTSIDE);
        T.due("summers(0)", x.summers(0), MilkTruce.OUTSIDE);
        T.due("summers(-1)", x.summers(-1), MilkTruce.OUTSIDE);
        T.due("the seed behind refusals", x.seed(4), 4);
        x.summers(30);
        T.due("nothing is changed", Due.look(x).equals(seen) ? 1 : 0, 1);
    }
}
