import java.util.function.ToLongFunction;

/**
 * Each argument that has bounds: the least and the most, one too small, one too large, and far off;
 * and of two wrong ones the refusal that the document names first.
 */
public final class BoundsTest {
    private static final Due T = new Due("BoundsTest");
    private static final int UNKNOWN = MilkTruce.UNKNOWN, OUTSIDE = MilkTruce.OUTSIDE;
    private static final int STATE = MilkTruce.STATE, FULL = MilkTruce.FULL, NONE = MilkTruce.NONE;

    /** A call of which one argument is looked at. */
    private interface Asked {
        long of(MilkTruce x, int argument);
    }

    public static void main(String[] args) {
        cells();
        letters();
        cowsOfThree();
        cowsOfNone();
        cowsOfSix();
        whatIsAsked();
        hoursAhead();
        sidesThatAre();
        rowsJudged();
        stopsTold();
        hoursTold();
        chances();
        hoursOfSummer();
        slots();
        firstRefusalOfTextAndPass();
        firstRefusalOfActs();
        firstRefusalOfCows();
        firstRefusalOfTellings();
        firstRefusalOfSlots();
        bothOutside();
        T.end();
    }

    private static void bounded(String call, int refusal, int least, int most, Asked asked) {
        int[] wrong = {least - 1, most + 1, Integer.MIN_VALUE, Integer.MAX_VALUE, -1000003, 1000000007};
        for (int argument : wrong) {
            String told = call + " with " + argument + " for it";
            Scene.same(T, told, refusal, x -> asked.of(x, argument));
            T.due(told + ", where all is free", asked.of(Scene.free(), argument), refusal);
        }
        for (int argument : new int[] {least, most}) {
            long got = asked.of(Scene.free(), argument);
            T.due(call + " with " + argument + " for it is answered", got >= 0 || got == NONE ? 1 : 0, 1);
        }
    }

    private static void cells() {
        bounded("clover(cell)", OUTSIDE, 0, 9, (x, cell) -> x.clover(cell));
        bounded("move(0, cell)", OUTSIDE, 0, 9, (x, cell) -> x.move(0, cell));
        bounded("sow(cell)", OUTSIDE, 0, 9, (x, cell) -> x.sow(cell));
    }

    private static void letters() {
        bounded("write(letter)", OUTSIDE, 0, 255, (x, letter) -> x.write(letter));
    }

    private static void cowsOfThree() {
        for (int what = 0; what <= 4; what++) {
            int asked = what;
            bounded("cow(cow, " + what + ")", UNKNOWN, 0, 2, (x, cow) -> x.cow(cow, asked));
        }
        bounded("move(cow, 8)", UNKNOWN, 0, 2, (x, cow) -> x.move(cow, 8));
        bounded("share(cow, 8, true)", UNKNOWN, 0, 2, (x, cow) -> x.share(cow, 8, true));
        bounded("share(cow, 8, false)", UNKNOWN, 0, 2, (x, cow) -> x.share(cow, 8, false));
        bounded("tell(cow, 0, true)", UNKNOWN, 0, 2, (x, cow) -> x.tell(cow, 0, true));
        bounded("tell(cow, 7, false)", UNKNOWN, 0, 2, (x, cow) -> x.tell(cow, 7, false));
        bounded("full(cow)", UNKNOWN, 0, 2, (x, cow) -> x.full(cow));
    }

    /** All that ask for a cow, of cows that are not there. */
    private static void unknown(String when, MilkTruce x, int cow) {
        T.due(when + ": cow(" + cow + ", 0)", x.cow(cow, 0), UNKNOWN);
        T.due(when + ": cow(" + cow + ", 4)", x.cow(cow, 4), UNKNOWN);
        T.due(when + ": move(" + cow + ", 9)", x.move(cow, 9), UNKNOWN);
        T.due(when + ": share(" + cow + ", 1, true)", x.share(cow, 1, true), UNKNOWN);
        T.due(when + ": share(" + cow + ", 1, false)", x.share(cow, 1, false), UNKNOWN);
        T.due(when + ": tell(" + cow + ", 0, true)", x.tell(cow, 0, true), UNKNOWN);
        T.due(when + ": full(" + cow + ")", x.full(cow), UNKNOWN);
    }

    private static void cowsOfNone() {
        for (int cow : new int[] {-1, 0, 1, 6}) {
            unknown("a new object", new MilkTruce(), cow);
            unknown("a pass without a cow", Due.pass("MG01"), cow);
        }
        MilkTruce fewer = Due.pass(Scene.SIX_COWS);
        Due.write(fewer, "MK0050");
        fewer.pass();
        unknown("a pass of one cow behind one of six", fewer, 1);
        T.due("cow(0, 2) of it", fewer.cow(0, 2), 5);
    }

    private static void cowsOfSix() {
        MilkTruce x = Due.pass(Scene.SIX_COWS);
        for (int cow : new int[] {-1, 6, 7, 31, 32, 33}) {
            unknown("six cows", x, cow);
        }
        T.due("six cows: cow(5, 0)", x.cow(5, 0), 5);
        T.due("six cows: move(5, 9)", x.move(5, 9), 5);
        T.due("six cows: share(5, 1, true)", x.share(5, 1, true), 0);
        T.due("six cows: share(5, 1, false)", x.share(5, 1, false), 1);
        T.due("six cows: tell(5, 0, false)", x.tell(5, 0, false), 1);
        T.due("six cows: full(5)", x.full(5), 63);
        T.due("six cows: full(0)", x.full(0), 1023);
    }

    private static void whatIsAsked() {
        bounded("cow(0, what)", OUTSIDE, 0, 4, (x, what) -> x.cow(0, what));
        bounded("graze(0, 8, true, what)", OUTSIDE, 0, 2, (x, what) -> x.graze(0, 8, true, what));
        bounded("graze(1, 1, false, what)", OUTSIDE, 0, 2, (x, what) -> x.graze(1, 1, false, what));
        bounded("rests(8, what)", OUTSIDE, 0, 1, (x, what) -> x.rests(8, what));
        bounded("count(what)", OUTSIDE, 0, 9, (x, what) -> x.count(what));
    }

    private static void hoursAhead() {
        bounded("sorts(n)", OUTSIDE, 1, 8, (x, n) -> x.sorts(n));
        bounded("on(n)", OUTSIDE, 1, 8, (x, n) -> x.on(n));
        bounded("milk(0, n)", OUTSIDE, 1, 8, (x, n) -> x.milk(0, n));
        bounded("graze(0, n, true, 2)", OUTSIDE, 1, 8, (x, n) -> x.graze(0, n, true, 2));
        bounded("graze(1, n, false, 0)", OUTSIDE, 1, 8, (x, n) -> x.graze(1, n, false, 0));
        bounded("fewest(n, false)", OUTSIDE, 1, 8, (x, n) -> x.fewest(n, false));
        bounded("fewest(n, true)", OUTSIDE, 1, 8, (x, n) -> x.fewest(n, true));
        bounded("judge(n, 0)", OUTSIDE, 1, 8, (x, n) -> x.judge(n, 0));
        bounded("share(0, n, true)", OUTSIDE, 1, 8, (x, n) -> x.share(0, n, true));
        bounded("share(0, n, false)", OUTSIDE, 1, 8, (x, n) -> x.share(0, n, false));
        bounded("rang(n, 0)", OUTSIDE, 1, 8, (x, n) -> x.rang(n, 0));
        bounded("rests(n, 0)", OUTSIDE, 1, 8, (x, n) -> x.rests(n, 0));
        bounded("rests(n, 1)", OUTSIDE, 1, 8, (x, n) -> x.rests(n, 1));
    }

    private static void sidesThatAre() {
        bounded("milk(side, 8)", OUTSIDE, 0, 1, (x, side) -> x.milk(side, 8));
        bounded("graze(side, 8, true, 0)", OUTSIDE, 0, 1, (x, side) -> x.graze(side, 8, true, 0));
        bounded("graze(side, 8, false, 2)", OUTSIDE, 0, 1, (x, side) -> x.graze(side, 8, false, 2));
    }

    private static void rowsJudged() {
        int most = 9;
        for (int n = 1; n <= 8; n++) {
            int hours = n;
            bounded("judge(" + n + ", row)", OUTSIDE, 0, most, (x, row) -> x.judge(hours, row));
            most = 10 * most + 9;
        }
    }

    private static void stopsTold() {
        for (int n = 1; n <= 8; n++) {
            int hours = n;
            bounded("rang(" + n + ", stops)", OUTSIDE, 0, (1 << n) - 1, (x, stops) -> x.rang(hours, stops));
        }
    }

    private static void hoursTold() {
        bounded("tell(0, hour, true)", OUTSIDE, 0, 7, (x, hour) -> x.tell(0, hour, true));
        bounded("tell(2, hour, false)", OUTSIDE, 0, 7, (x, hour) -> x.tell(2, hour, false));
    }

    private static void chances() {
        bounded("chance(n, 5, true)", OUTSIDE, 1, 6, (x, n) -> x.chance(n, 5, true));
        bounded("chance(n, 0, false)", OUTSIDE, 1, 6, (x, n) -> x.chance(n, 0, false));
        bounded("chance(6, x, true)", OUTSIDE, 0, 10, (x, tenths) -> x.chance(6, tenths, true));
        bounded("chance(1, x, false)", OUTSIDE, 0, 10, (x, tenths) -> x.chance(1, tenths, false));
    }

    private static void hoursOfSummer() {
        bounded("summers(m)", OUTSIDE, 1, 30, (x, m) -> x.summers(m));
    }

    private static void slots() {
        bounded("keep(slot)", UNKNOWN, 0, 1, (x, slot) -> x.keep(slot));
        bounded("again(slot)", UNKNOWN, 0, 1, (x, slot) -> x.again(slot));
    }

    /** Refused on a busy scene: three cows, six tellings, a full text, slot 0 never kept. */
    private static void refused(String call, int want, ToLongFunction<MilkTruce> asked) {
        Scene.same(T, call, want, asked);
    }

    private static void firstRefusalOfTextAndPass() {
        refused("write(256), the text is full", OUTSIDE, x -> x.write(256));
        refused("write(-1), the text is full", OUTSIDE, x -> x.write(-1));
        refused("write(255), the text is full", FULL, x -> x.write(255));
        refused("cow(3, 5)", UNKNOWN, x -> x.cow(3, 5));
        refused("cow(-1, -1)", UNKNOWN, x -> x.cow(-1, -1));
        T.due("cow(0, 5) without a cow", new MilkTruce().cow(0, 5), UNKNOWN);
    }

    private static void firstRefusalOfActs() {
        refused("move(3, 10)", UNKNOWN, x -> x.move(3, 10));
        refused("move(-1, -1)", UNKNOWN, x -> x.move(-1, -1));
        refused("move(3, 9), where a cow is", UNKNOWN, x -> x.move(3, 9));
        refused("move(0, -1)", OUTSIDE, x -> x.move(0, -1));
        refused("move(0, 3), where a cow is", STATE, x -> x.move(0, 3));
        refused("move(0, 0), where it is itself", STATE, x -> x.move(0, 0));
        MilkTruce full = Due.pass("MG09G99");
        T.due("sow(10) beside 9 clover", full.sow(10), OUTSIDE);
        T.due("sow(-1) beside 9 clover", full.sow(-1), OUTSIDE);
        T.due("sow(9) on 9 clover", full.sow(9), FULL);
    }

    private static void firstRefusalOfCows() {
        for (int n : new int[] {0, 9}) {
            refused("share(3, " + n + ", true)", UNKNOWN, x -> x.share(3, n, true));
            refused("share(-1, " + n + ", false)", UNKNOWN, x -> x.share(-1, n, false));
            refused("share(2, " + n + ", true)", OUTSIDE, x -> x.share(2, n, true));
            T.due("share(0, " + n + ", true) without a cow", new MilkTruce().share(0, n, true), UNKNOWN);
        }
    }

    private static void firstRefusalOfTellings() {
        for (int hour : new int[] {-1, 8}) {
            refused("tell(3, " + hour + ", true), six were told", UNKNOWN, x -> x.tell(3, hour, true));
            refused("tell(0, " + hour + ", true), six were told", OUTSIDE, x -> x.tell(0, hour, true));
            T.due("tell(3, " + hour + ", true), none told", Scene.free().tell(3, hour, true), UNKNOWN);
            T.due("tell(2, " + hour + ", true), none told", Scene.free().tell(2, hour, true), OUTSIDE);
        }
        refused("tell(3, 0, true), six were told", UNKNOWN, x -> x.tell(3, 0, true));
        refused("tell(2, 7, true), six were told", FULL, x -> x.tell(2, 7, true));
    }

    private static void firstRefusalOfSlots() {
        for (int slot : new int[] {-1, 2}) {
            T.due("again(" + slot + "), none was kept", new MilkTruce().again(slot), UNKNOWN);
            refused("again(" + slot + "), one was kept", UNKNOWN, x -> x.again(slot));
        }
        refused("again(0), it was not kept", STATE, x -> x.again(0));
    }

    private static void bothOutside() {
        refused("milk(2, 9)", OUTSIDE, x -> x.milk(2, 9));
        refused("milk(-1, 0)", OUTSIDE, x -> x.milk(-1, 0));
        refused("graze(2, 9, true, 3)", OUTSIDE, x -> x.graze(2, 9, true, 3));
        refused("graze(-1, 0, false, -1)", OUTSIDE, x -> x.graze(-1, 0, false, -1));
        refused("judge(0, -1)", OUTSIDE, x -> x.judge(0, -1));
        refused("judge(9, 1000000000)", OUTSIDE, x -> x.judge(9, 1000000000));
        refused("rang(0, -1)", OUTSIDE, x -> x.rang(0, -1));
        refused("rang(9, 512)", OUTSIDE, x -> x.rang(9, 512));
        refused("rang(31, 0)", OUTSIDE, x -> x.rang(31, 0));
        refused("rests(9, 2)", OUTSIDE, x -> x.rests(9, 2));
        refused("rests(0, -1)", OUTSIDE, x -> x.rests(0, -1));
        refused("chance(7, 11, true)", OUTSIDE, x -> x.chance(7, 11, true));
        refused("chance(0, -1, false)", OUTSIDE, x -> x.chance(0, -1, false));
    }
}
