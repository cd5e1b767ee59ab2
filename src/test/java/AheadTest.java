/** Promises 13 to 19: what is ahead. Nothing is changed by it. */
public final class AheadTest {
    private static final Due T = new Due("AheadTest");
    /** One cow that stops HOUR 2 and HOUR 5 from now on, milked 7 and 6. */
    private static final String ONE = "MG09K0050";

    public static void main(String[] args) {
        sorts();
        on();
        milk();
        graze();
        grazeOfLikeOnes();
        fewest();
        judge();
        share();
        withSnow();
        nothingIsChanged();
        T.end();
    }

    private static void sorts() {
        MilkTruce x = Due.pass(ONE);
        T.due("sorts(1)", x.sorts(1), 0);
        T.due("sorts(2)", x.sorts(2), 1);
        T.due("sorts(5)", x.sorts(5), 1001);
        T.due("sorts(8)", x.sorts(8), 1001000);
        x.hour(false);
        T.due("sorts(8) an hour on", x.sorts(8), 10010000);
        T.due("sorts(0)", x.sorts(0), MilkTruce.OUTSIDE);
        T.due("sorts(9)", x.sorts(9), MilkTruce.OUTSIDE);
        T.due("sorts(-1)", x.sorts(-1), MilkTruce.OUTSIDE);
        T.due("sorts of one that warns", Due.pass("MG01K0043").sorts(3), 22);
        T.due("sorts of one that warns, then is due", Due.pass("MG02K0043").sorts(4), 210);
    }

    private static void on() {
        MilkTruce x = Due.pass(ONE);
        T.due("on(1)", x.on(1), 1);
        T.due("on(2)", x.on(2), 1);
        T.due("on(8)", x.on(8), 6);
        T.due("on(0)", x.on(0), MilkTruce.OUTSIDE);
        T.due("on(9)", x.on(9), MilkTruce.OUTSIDE);
        T.due("on: warned ones are not", Due.pass("MG02K0043").on(4), 2);
    }

    private static void milk() {
        MilkTruce x = Due.pass(ONE + "K9191");
        T.due("milk(0, 1)", x.milk(0, 1), 0);
        T.due("milk(0, 2)", x.milk(0, 2), 7);
        T.due("milk(0, 8)", x.milk(0, 8), 13);
        T.due("milk(1, 1)", x.milk(1, 1), 9);
        x.hour(false);
        x.hour(false);
        T.due("milk(0, 8): not what came", x.milk(0, 8), 12);
        T.due("milk(1, 8): not what came", x.milk(1, 8), 0);
        T.due("milk(2, 1)", x.milk(2, 1), MilkTruce.OUTSIDE);
        T.due("milk(-1, 1)", x.milk(-1, 1), MilkTruce.OUTSIDE);
        T.due("milk(0, 0)", x.milk(0, 0), MilkTruce.OUTSIDE);
        T.due("milk(0, 9)", x.milk(0, 9), MilkTruce.OUTSIDE);
    }

    private static void grazeIs(String when, MilkTruce x, int side, boolean most, int cow, int cell, int on) {
        T.due(when + ": cow", x.graze(side, 8, most, 0), cow);
        T.due(when + ": cell", x.graze(side, 8, most, 1), cell);
        T.due(when + ": on", x.graze(side, 8, most, 2), on);
    }

    private static void graze() {
        MilkTruce x = Due.pass("MG09G11K0050K5100");
        grazeIs("away from the clover", x, 0, true, 0, 2, 8);
        grazeIs("it stays", x, 0, false, MilkTruce.NONE, MilkTruce.NONE, 6);
        grazeIs("the other side can't help it", x, 1, true, MilkTruce.NONE, MilkTruce.NONE, 6);
        MilkTruce y = Due.pass("MG19K0050K5140");
        grazeIs("to the clover", y, 0, false, 0, 1, 6);
        grazeIs("of both least", y, 1, false, 1, 1, 6);
        MilkTruce none = Due.pass("MG19K0050");
        grazeIs("a side without cows", none, 1, true, MilkTruce.NONE, MilkTruce.NONE, 8);
        T.due("graze(2, ..)", x.graze(2, 8, true, 0), MilkTruce.OUTSIDE);
        T.due("graze(-1, ..)", x.graze(-1, 8, true, 0), MilkTruce.OUTSIDE);
        T.due("graze: n 0", x.graze(0, 0, true, 0), MilkTruce.OUTSIDE);
        T.due("graze: n 9", x.graze(0, 9, true, 0), MilkTruce.OUTSIDE);
        T.due("graze: what 3", x.graze(0, 8, true, 3), MilkTruce.OUTSIDE);
        T.due("graze: what -1", x.graze(0, 8, true, -1), MilkTruce.OUTSIDE);
    }

    private static void grazeOfLikeOnes() {
        MilkTruce x = Due.pass("MG39G79K8050K9050");
        grazeIs("the least cow, the least cell", x, 0, false, 0, 3, 6);
        MilkTruce y = Due.pass("MG89G79K8050K7050");
        // Both stop HOUR 2 and HOUR 5: that one is gone helps nothing.
        grazeIs("of like ones none", y, 0, true, MilkTruce.NONE, MilkTruce.NONE, 6);
        MilkTruce z = Due.pass("MG19K0012K2050K3150");
        grazeIs("the second cow", z, 0, false, 1, 1, 6);
        MilkTruce first = Due.pass("MG09K1012K2050");
        grazeIs("the second cow, to cell 0", first, 0, false, 1, 0, 6);
        grazeIs("the third one, of the other side", z, 1, false, 2, 1, 6);
    }

    private static void fewestIs(String letters, int n, int many, int row) {
        MilkTruce x = Due.pass(letters);
        T.due(letters + ": fewest(" + n + ", false)", x.fewest(n, false), many);
        T.due(letters + ": fewest(" + n + ", true)", x.fewest(n, true), row);
    }

    private static void fewest() {
        fewestIs("MK0060", 1, 0, 1);
        fewestIs("MG01K0040", 1, MilkTruce.NONE, MilkTruce.NONE);
        fewestIs("MG01K0040", 2, MilkTruce.NONE, MilkTruce.NONE);
        fewestIs("MG01K0040", 3, 1, 10);
        fewestIs("MK4040", 3, 2, 144);
        fewestIs("MG32K3030", 3, 3, 1333);
        fewestIs("MG32K3030", 4, 1, 13);
        fewestIs("MG32K3030", 5, MilkTruce.NONE, MilkTruce.NONE);
        fewestIs("MG31G21K3040K2040", 3, 1, 12);
        fewestIs("MG31G71K3040K7050", 2, 0, 1);
        fewestIs("M", 8, MilkTruce.NONE, MilkTruce.NONE);
        // A tenth clover would do, but a cell may have 9 at most.
        fewestIs("MG09K0010", 7, MilkTruce.NONE, MilkTruce.NONE);
        fewestIs("MG08K0010", 8, 1, 10);
        fewestIs("MG09K0010", 8, 0, 1);
        MilkTruce x = Due.pass("MK0060");
        T.due("fewest(0, true)", x.fewest(0, true), MilkTruce.OUTSIDE);
        T.due("fewest(9, false)", x.fewest(9, false), MilkTruce.OUTSIDE);
    }

    private static void judge() {
        MilkTruce x = Due.pass(ONE);
        T.due("judge(8, 1001000)", x.judge(8, 1001000), MilkTruce.NONE);
        T.due("judge(8, 1001001)", x.judge(8, 1001001), 7);
        T.due("judge(8, 10000000)", x.judge(8, 10000000), 0);
        T.due("judge(8, 0)", x.judge(8, 0), 1);
        T.due("judge(8, 99999999)", x.judge(8, 99999999), 0);
        T.due("judge(2, 1)", x.judge(2, 1), MilkTruce.NONE);
        T.due("judge(2, 9)", x.judge(2, 9), 1);
        T.due("judge(1, 0)", x.judge(1, 0), MilkTruce.NONE);
        T.due("judge(1, 9)", x.judge(1, 9), 0);
        T.due("judge(1, 10)", x.judge(1, 10), MilkTruce.OUTSIDE);
        T.due("judge(8, 100000000)", x.judge(8, 100000000), MilkTruce.OUTSIDE);
        T.due("judge(8, -1)", x.judge(8, -1), MilkTruce.OUTSIDE);
        T.due("judge(0, 0)", x.judge(0, 0), MilkTruce.OUTSIDE);
        T.due("judge(9, 0)", x.judge(9, 0), MilkTruce.OUTSIDE);
    }

    private static void shareIs(MilkTruce x, int cow, int n, int above, int below) {
        T.due("share(" + cow + ", " + n + ", true)", x.share(cow, n, true), above);
        T.due("share(" + cow + ", " + n + ", false)", x.share(cow, n, false), below);
    }

    private static void share() {
        MilkTruce x = Due.pass("MG09G21K0050K2050");
        // Alone the one stops 2 hours, the other 1 of the same: (2 + 1) / 2 and (1 + 0) / 2.
        shareIs(x, 0, 8, 3, 2);
        shareIs(x, 1, 8, 1, 2);
        shareIs(x, 0, 1, 0, 1);
        MilkTruce y = Due.pass("MK0060K1160K2060K3060K4160K5190");
        shareIs(y, 5, 1, 1, 6);
        shareIs(y, 0, 8, 1, 6);
        MilkTruce z = Due.pass("MG09K0050K1191K2192K3153");
        shareIs(z, 0, 8, 2, 1);
        shareIs(z, 1, 8, 1, 1);
        shareIs(z, 2, 8, 0, 1);
        shareIs(z, 3, 8, 0, 1);
        shareIs(z, 4, 8, MilkTruce.UNKNOWN, MilkTruce.UNKNOWN);
        shareIs(z, -1, 8, MilkTruce.UNKNOWN, MilkTruce.UNKNOWN);
        shareIs(z, 4, 9, MilkTruce.UNKNOWN, MilkTruce.UNKNOWN);
        shareIs(z, 0, 9, MilkTruce.OUTSIDE, MilkTruce.OUTSIDE);
        shareIs(z, 0, 0, MilkTruce.OUTSIDE, MilkTruce.OUTSIDE);
    }

    private static void withSnow() {
        MilkTruce x = Due.pass("MG09K0060");
        x.snow();
        T.due("snow: sorts(4)", x.sorts(4), 3333);
        T.due("snow: on(4)", x.on(4), 0);
        T.due("snow: milk(0, 4)", x.milk(0, 4), 0);
        T.due("snow: graze", x.graze(0, 4, true, 0), MilkTruce.NONE);
        T.due("snow: graze on", x.graze(0, 4, true, 2), 0);
        T.due("snow: fewest", x.fewest(1, true), MilkTruce.NONE);
        T.due("snow: judge", x.judge(4, 3333), MilkTruce.NONE);
        shareIs(x, 0, 4, 0, 1);
    }

    private static void nothingIsChanged() {
        MilkTruce x = Due.pass("MG09G11K0050K5143");
        x.hour(false);
        x.sow(3);
        x.tell(0, 1, true);
        String seen = Due.look(x);
        x.sorts(8);
        x.on(8);
        x.milk(0, 8);
        x.graze(0, 8, true, 0);
        x.graze(1, 8, false, 1);
        x.fewest(8, true);
        x.judge(8, 0);
        x.share(0, 8, true);
        x.sorts(9);
        x.graze(0, 8, true, 3);
        x.share(6, 8, true);
        T.due("nothing is changed by what is ahead", Due.look(x).equals(seen) ? 1 : 0, 1);
    }
}
