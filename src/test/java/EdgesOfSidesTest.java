import java.math.BigInteger;

/** The edges that the document names for who rang, what was due, sides and chances: a test for each. */
public final class EdgesOfSidesTest {
    private static final Due T = new Due("EdgesOfSidesTest");
    private static final int NONE = MilkTruce.NONE, OUTSIDE = MilkTruce.OUTSIDE, FULL = MilkTruce.FULL;
    /** One cow that stops HOUR 2 and HOUR 5 from now on. */
    private static final String ONE = "MG09K0050";
    /** One cow that stops HOUR 4 and HOUR 8 from now on. */
    private static final String LATE = "MG09K0010";
    private static final int ALL = 1023;

    public static void main(String[] args) {
        rangOfNoStopAndOfAll();
        rangWhereItDidNotStop();
        rangOfNoCows();
        rangInSnow();
        sixTellingsAndOneMore();
        tellingsOfHourNoneAndSeven();
        tellingsOfCowsNotThere();
        tellingsFromTheHourThatItIs();
        untoldOfNoneAndOfSix();
        fullWithNothingTold();
        fullAtTheEdgeOfDue();
        fullThatCanNotBe();
        fullInSnow();
        restsOfNoCows();
        restsOfAsManyPairsAsThereAre();
        restsInSnow();
        restsAtTheLastCowAndCell();
        restsThatAreNone();
        chanceOfNoTenthAndOfTen();
        chanceOfOneHourAndOfSix();
        chanceInLeastTerms();
        chanceOfNoCows();
        seedsAreAnyLong();
        seedWrapsAround();
        seedStaysByRefusal();
        summersOfOneHourAndOfThirty();
        summersSowEachCell();
        summersSowNineAtMost();
        summersSnow();
        summersOfSideOneAreLess();
        T.end();
    }

    private static void rangIs(String letters, int n, int stops, int want) {
        Scene.answers(T, letters, "rang(" + n + ", " + stops + ")", want, x -> x.rang(n, stops));
    }

    /** "HOURS (bits) in which somebody must have RUNG" */
    private static void rangOfNoStopAndOfAll() {
        for (int n = 1; n <= 8; n++) {
            int all = (1 << n) - 1;
            rangIs("MK0050", n, 0, 0);
            rangIs("MK0050", n, all, all);
            rangIs("MK0060", n, 1, 0);
            rangIs("MK0060", n, all, all - 1);
            rangIs("MK0053", n, all, all);
            rangIs("MK0092", n, all, all);
        }
        rangIs(LATE, 8, 136, 0);
        rangIs(LATE, 8, 255, 119);
        rangIs(LATE, 7, 8, 0);
    }

    /** "NONE: it can not be (one did not stop, though a COW was DUE ..)" */
    private static void rangWhereItDidNotStop() {
        for (int n = 1; n <= 8; n++) {
            rangIs("MK0060", n, 0, NONE);
            rangIs("MK0060", n, (1 << n) - 2, NONE);
        }
        rangIs(LATE, 8, 8, NONE);
        rangIs(LATE, 8, 128, NONE);
        rangIs(LATE, 8, 127, NONE);
        rangIs(LATE, 4, 7, NONE);
        rangIs(LATE, 3, 0, 0);
    }

    private static void rangOfNoCows() {
        for (int n = 1; n <= 8; n++) {
            rangIs("M", n, 0, 0);
            rangIs("M", n, (1 << n) - 1, (1 << n) - 1);
            rangIs("M", n, 1 << n, OUTSIDE);
        }
    }

    /** "or there is SNOW" */
    private static void rangInSnow() {
        MilkTruce x = Due.pass("MK0050");
        x.snow();
        T.due("snow: rang(1, 0)", x.rang(1, 0), NONE);
        T.due("snow: rang(8, 255)", x.rang(8, 255), NONE);
        T.due("snow: rang(8, 256)", x.rang(8, 256), OUTSIDE);
        T.due("snow: rang(0, 0)", x.rang(0, 0), OUTSIDE);
        x.snow();
        T.due("behind the snow: rang(1, 0)", x.rang(1, 0), 0);
    }

    /** "6 such at most, none at first" */
    private static void sixTellingsAndOneMore() {
        MilkTruce x = Due.pass("MK0000K1000");
        T.due("none was told", x.count(9), 0);
        for (int i = 1; i <= 6; i++) {
            T.due("tell, the " + i + ".", x.tell(i % 2, i, false), i);
            T.due("how many were told", x.count(9), i);
        }
        T.due("tell, the 7.", x.tell(0, 0, true), FULL);
        T.due("tell, the 7., of the other", x.tell(1, 7, false), FULL);
        T.due("tell, one that was told", x.tell(1, 1, false), FULL);
        T.due("six it stays", x.count(9), 6);
        T.due("the refused one is not looked at", x.full(0), ALL);
    }

    /** "at the beginning of HOUR h (0 to 7 ..)" */
    private static void tellingsOfHourNoneAndSeven() {
        int[] want = {960, 32, 0, 0, 0, 0, 0, 0};
        for (int hour = 0; hour <= 7; hour++) {
            MilkTruce x = Due.pass("MG01K0000");
            x.tell(0, hour, true);
            T.due("of one clover, due in hour " + hour, x.full(0), want[hour]);
            x.untell();
            x.tell(0, hour, false);
            T.due("of one clover, not due in hour " + hour, x.full(0), ALL - want[hour]);
        }
        // 9 clover: 1 full it is due in the hours 3 and 7, counted from 0 on, and in 7 from 0, 6 to 9 full, too.
        MilkTruce late = Due.pass(LATE);
        late.tell(0, 7, true);
        late.tell(0, 3, true);
        T.due("of nine clover, due in the hours 3 and 7", late.full(0), 963);
    }

    /** "(of COWS that there are not any more nothing is looked at)" */
    private static void tellingsOfCowsNotThere() {
        MilkTruce x = Due.pass(Scene.SIX_COWS);
        x.tell(5, 0, true);
        T.due("six cows: one that is not due was", x.full(0), 0);
        Due.write(x, Scene.SIX_COWS.substring(0, 26));
        x.pass();
        T.due("five cows: it is told yet", x.count(9), 1);
        T.due("five cows: nothing is looked at", x.full(0), ALL);
        T.due("five cows: nor of the last", x.full(4), ALL);
        T.due("five cows: the sixth", x.full(5), MilkTruce.UNKNOWN);
        Due.write(x, "M");
        x.pass();
        T.due("no cows: it is told yet", x.count(9), 1);
        T.due("no cows: the first", x.full(0), MilkTruce.UNKNOWN);
        Due.write(x, Scene.SIX_COWS.substring(0, 26) + "K5060");
        x.pass();
        T.due("six cows again, the sixth is due", x.full(0), ALL);
        T.due("six cows again: the sixth", x.full(5), 960);
    }

    /** "from THE HOUR that it is when FULL is asked, not when it was told" */
    private static void tellingsFromTheHourThatItIs() {
        MilkTruce x = Due.pass("MG01K0000");
        x.tell(0, 1, true);
        T.due("a clover is there", x.full(0), 32);
        x.hour(false);
        T.due("an hour on it is eaten", x.full(0), 0);
        x.sow(0);
        T.due("one is sown", x.full(0), 32);
        x.move(0, 5);
        T.due("it is not there any more", x.full(0), 0);
    }

    /** "Nothing WAS DUE: how many there were." */
    private static void untoldOfNoneAndOfSix() {
        MilkTruce x = Due.pass("MK0000");
        T.due("untell of none", x.untell(), 0);
        for (int i = 0; i < 6; i++) {
            x.tell(0, i, true);
        }
        T.due("untell of six", x.untell(), 6);
        T.due("untell again", x.untell(), 0);
        T.due("none is looked at", x.full(0), ALL);
        for (int i = 1; i <= 6; i++) {
            T.due("tell behind untell, the " + i + ".", x.tell(0, 0, false), i);
        }
        T.due("tell behind untell, the 7.", x.tell(0, 0, false), FULL);
        T.due("only what was told since is looked at", x.full(0), 63);
    }

    private static void fullWithNothingTold() {
        for (char kind : "0123".toCharArray()) {
            Scene.answers(T, "MG09K005" + kind, "full(0), nothing told", ALL, x -> x.full(0));
        }
        MilkTruce x = Due.pass(Scene.SIX_COWS);
        for (int cow = 0; cow <= 5; cow++) {
            T.due("six cows, nothing told: full(" + cow + ")", x.full(cow), ALL);
        }
    }

    /** "how full (0 to 9, as bits)": bit 0 is none, bit 9 the fullest. */
    private static void fullAtTheEdgeOfDue() {
        int[] due = {960, 512, 0, 960};
        for (int kind = 0; kind <= 3; kind++) {
            MilkTruce x = Due.pass("MK000" + kind);
            x.tell(0, 0, true);
            T.due("kind " + kind + ", it was due", x.full(0), due[kind]);
            x.untell();
            x.tell(0, 0, false);
            T.due("kind " + kind + ", it was not due", x.full(0), ALL - due[kind]);
        }
    }

    private static void fullThatCanNotBe() {
        MilkTruce x = Due.pass("MK0000K1060");
        x.tell(0, 0, true);
        x.tell(0, 0, false);
        T.due("it was due and was not", x.full(0), 0);
        T.due("nor can the other be", x.full(1), 0);
        x.untell();
        x.tell(1, 0, false);
        T.due("the other was not due, but is", x.full(0), 0);
        T.due("the other itself", x.full(1), 63);
    }

    private static void fullInSnow() {
        MilkTruce x = Due.pass("MG01K0000");
        x.snow();
        x.tell(0, 7, true);
        T.due("in snow it is due yet", x.full(0), 960);
        x.snow();
        T.due("without it is milked", x.full(0), 0);
    }

    private static void restsAre(String letters, int n, int many, int first) {
        Scene.answers(T, letters, "rests(" + n + ", 0)", many, x -> x.rests(n, 0));
        Scene.answers(T, letters, "rests(" + n + ", 1)", first, x -> x.rests(n, 1));
    }

    private static void restsOfNoCows() {
        for (int n = 1; n <= 8; n++) {
            restsAre("M", n, 1, 0);
            restsAre("MG09G99", n, 1, 0);
        }
    }

    /** So many cows on each side, none of which is ever due: all pairs rest that can be. */
    private static String cowsOfSides(int ofSide0, int ofSide1) {
        StringBuilder letters = new StringBuilder("M");
        for (int cow = 0; cow < ofSide0 + ofSide1; cow++) {
            letters.append('K').append(cow).append(cow < ofSide0 ? 0 : 1).append("00");
        }
        return letters.toString();
    }

    /** "each MOVES one of its COWS to a CELL where none is now, or none; both not to one CELL" */
    private static void restsOfAsManyPairsAsThereAre() {
        for (int one = 0; one <= 6; one++) {
            for (int other = 0; one + other <= 6; other++) {
                int cells = 10 - one - other;
                int pairs = (one * cells + 1) * (other * cells + 1) - one * other * cells;
                restsAre(cowsOfSides(one, other), 8, pairs, 0);
                MilkTruce x = Due.pass(cowsOfSides(one, other));
                x.rests(1, 0);
                x.rests(1, 1);
                T.due(one + " and " + other + " cows, asked before: rests(1, 0)", x.rests(1, 0), pairs);
            }
        }
    }

    private static void restsInSnow() {
        for (int n = 1; n <= 8; n += 7) {
            MilkTruce x = Due.pass("MG09G99K0060K1160");
            x.snow();
            T.due("snow: rests(" + n + ", 0)", x.rests(n, 0), 73);
            T.due("snow: rests(" + n + ", 1)", x.rests(n, 1), 0);
        }
    }

    /** "(0 none; else 10 times the COW, and the CELL, and 1)" */
    private static void restsAtTheLastCowAndCell() {
        // Side 0 keeps cell 9, by one of 5 cows, and side 1 moves elsewhere or not: 20;
        // or side 1 goes there, and side 0 elsewhere or not: 16.
        restsAre("MG99K0002K1002K2002K3002K4002K5150", 8, 36, 60);
        restsAre("MG59G69G79G89K0002K1002K2002K3002K4002K5050", 8, 1, 60000);
        restsAre("MG09K1050", 8, 9, 0);
        restsAre("MG09K0050", 8, 9, 2000);
        restsAre("MG09K1150", 8, 1, 1);
        // None alone is best: all other cells have clover, or the own one has.
        restsAre("MG19G29G39G49G59G69G79G89G99K0050", 8, 1, 0);
        restsAre("MG09K0150", 8, 1, 0);
    }

    private static void restsThatAreNone() {
        restsAre("MG05G26G67G86G99K6080K9100K2090K1112K7012", 5, 0, NONE);
        restsAre("MG06G16G28G53K6150K5151K8092K2091K0050K4170", 8, 0, NONE);
    }

    private static void chanceIs(String letters, int n, int tenths, int above, int below) {
        String call = "chance(" + n + ", " + tenths + ", ";
        Scene.answers(T, letters, call + "true)", above, x -> x.chance(n, tenths, true));
        Scene.answers(T, letters, call + "false)", below, x -> x.chance(n, tenths, false));
    }

    /** "by x tenths (0 to 10)" */
    private static void chanceOfNoTenthAndOfTen() {
        int[] stops = {0, 1, 0, 0, 1, 0};
        for (int n = 1; n <= 6; n++) {
            chanceIs(ONE, n, 0, stops[n - 1], 1);
            chanceIs(ONE, n, 10, 0, 1);
            chanceIs("MK0060", n, 10, 0, 1);
        }
    }

    /** "in each of n HOURS (1 to 6)", "that the last of them is a STOP" */
    private static void chanceOfOneHourAndOfSix() {
        chanceIs("MK0060", 1, 0, 1, 1);
        chanceIs("MK0060", 1, 1, 9, 10);
        chanceIs("MK0060", 1, 9, 1, 10);
        // It snows five times, and then it does not.
        chanceIs("MK0060", 6, 0, 0, 1);
        chanceIs("MK0060", 6, 1, 9, 1000000);
        chanceIs("MK0060", 6, 9, 59049, 1000000);
        chanceIs("MK0053", 6, 5, 0, 1);
    }

    /** "in least terms" */
    private static void chanceInLeastTerms() {
        int[] above = {1, 9, 4, 7, 3, 1, 2, 3, 1, 1, 0};
        int[] below = {1, 10, 5, 10, 5, 2, 5, 10, 5, 10, 1};
        for (int tenths = 0; tenths <= 10; tenths++) {
            chanceIs("MK0060", 1, tenths, above[tenths], below[tenths]);
        }
        chanceIs("MK0060", 6, 2, 4, 15625);
        chanceIs("MK0060", 6, 5, 1, 64);
    }

    private static void chanceOfNoCows() {
        for (int n = 1; n <= 6; n++) {
            chanceIs("MG09", n, 0, 0, 1);
            chanceIs("MG09", n, 7, 0, 1);
            chanceIs("MG09", n, 10, 0, 1);
        }
    }

    /** "THE SEED is v: what it was."; "a long; 0 at first" */
    private static void seedsAreAnyLong() {
        long[] seeds = {Long.MAX_VALUE, Long.MIN_VALUE, -1, 0, 1, 1L << 32, -(1L << 32), Integer.MIN_VALUE};
        MilkTruce x = new MilkTruce();
        long was = 0;
        for (long seed : seeds) {
            T.due("seed(" + seed + ")", x.seed(seed), was);
            was = seed;
        }
    }

    /** "64 bits, wrapping" */
    private static void seedWrapsAround() {
        long[] seeds = {Long.MAX_VALUE, Long.MIN_VALUE, -1, 0, 1, 4611686018427387904L};
        BigInteger around = BigInteger.ONE.shiftLeft(64);
        for (long seed : seeds) {
            for (int hours : new int[] {1, 2, 30}) {
                BigInteger want = BigInteger.valueOf(seed);
                for (int i = 0; i < hours; i++) {
                    want = want.multiply(new BigInteger("6364136223846793005"))
                        .add(new BigInteger("1442695040888963407")).mod(around);
                }
                MilkTruce x = new MilkTruce();
                x.seed(seed);
                T.due("summers(" + hours + ") of no cows by " + seed, x.summers(hours), 1000);
                T.due("the seed behind " + hours + " from " + seed, x.seed(0), want.longValue());
            }
        }
        MilkTruce most = new MilkTruce();
        most.seed(Long.MAX_VALUE);
        most.summers(1);
        T.due("the seed behind the most", most.seed(Long.MIN_VALUE), 4301930853896946210L);
        most.summers(1);
        T.due("the seed behind the least", most.seed(0), -7780676995965812401L);
    }

    private static void seedStaysByRefusal() {
        MilkTruce x = new MilkTruce();
        x.seed(Long.MIN_VALUE);
        T.due("summers(0)", x.summers(0), OUTSIDE);
        T.due("summers(31)", x.summers(31), OUTSIDE);
        T.due("the seed behind refusals", x.seed(0), Long.MIN_VALUE);
    }

    private static void summersAre(String letters, long seed, int hours, int want) {
        Scene.answers(T, letters, "summers(" + hours + ") by " + seed, want, x -> {
            x.seed(seed);
            return x.summers(hours);
        });
    }

    /** "m HOURS (1 to 30)" */
    private static void summersOfOneHourAndOfThirty() {
        summersAre("MK0060", 1, 1, 1006);
        summersAre("MK0060", 1, 30, 1006);
        summersAre("MG09K0050", 0, 30, 1019);
        summersAre("MG09K0150", 0, 30, 981);
        // It is due at the beginning of the second hour.
        summersAre("MG01K0050", 1, 1, 1000);
        summersAre("MG01K0050", 1, 2, 1006);
    }

    /** "0 to 9 that CELL is SOWN first" */
    private static void summersSowEachCell() {
        // The first hour sows the cell, the second does not snow.
        long[] seeds = {2, 13, 39, 9, 8, 19, 4, 0, 26, 10};
        for (int cell = 0; cell < seeds.length; cell++) {
            for (int grazed = 0; grazed < seeds.length; grazed++) {
                summersAre("MK" + grazed + "050", seeds[cell], 2, grazed == cell ? 1006 : 1000);
            }
        }
    }

    /** "(if it may)" */
    private static void summersSowNineAtMost() {
        // Cell 0 is sown in the first hour alone. With 10 clover it would be milked in HOUR 7 of 7, too.
        for (long seed : new long[] {2, 29}) {
            summersAre("MG09K0010", seed, 7, 1007);
            summersAre("MG08K0010", seed, 7, 1007);
        }
    }

    /** "its upper 31 bits by 20, what is left: .. 10 and 11: it SNOWS in it, else not" */
    private static void summersSnow() {
        // Seeds by what is left, from 0 to 19: mostly two, the second one below 0 when it has become.
        long[] becomesAbove = {29, -28, -32, 9, 35, -37, 4, 0, 26, 52, 36, 6, 32, 58, 1, 12, 23, 64, 7, 3};
        long[] becomesBelow = {2, 13, 39, -18, -7, 19, -38, 71, -1, 10, 51, 77, 5, 16, 42, -15, 11, 22, 48, -9};
        for (int left = 0; left <= 19; left++) {
            int want = left == 10 || left == 11 ? 1000 : 1006;
            summersAre("MK0060", becomesAbove[left], 1, want);
            summersAre("MK0060", becomesBelow[left], 1, want);
        }
        MilkTruce x = Due.pass("MK0060");
        x.snow();
        x.seed(1);
        T.due("summers(1) with snow now", x.summers(1), 1006);
        T.due("it snows yet", x.count(3), 1);
    }

    /** "PAILS of SIDE 0 less those of SIDE 1 that come, and 1000" */
    private static void summersOfSideOneAreLess() {
        summersAre("MK0090K1090K2090K3090K4090K5090", 1, 1, 1054);
        summersAre("MK0190K1190K2190K3190K4190K5190", 1, 1, 946);
        summersAre("MK0190K1090K2060K3170", 1, 1, 999);
        MilkTruce x = Due.pass("MK0060K1190");
        x.hour(false);
        x.seed(1);
        T.due("not the pails that came", x.summers(1), 1000);
    }
}
