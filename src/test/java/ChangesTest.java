import java.util.function.ToLongFunction;

/** What is refused changes nothing, nor do the calls in which nothing is changed. */
public final class ChangesTest {
    private static final Due T = new Due("ChangesTest");
    private static final int SOME = Scene.SOME;

    public static void main(String[] args) {
        refused();
        looks();
        T.end();
    }

    private static void same(String call, int want, ToLongFunction<MilkTruce> asked) {
        Scene.same(T, call, want, asked);
    }

    private static void refused() {
        int unknown = MilkTruce.UNKNOWN;
        int outside = MilkTruce.OUTSIDE;
        same("write(256)", outside, m -> m.write(256));
        same("write(65)", MilkTruce.FULL, m -> m.write(65));
        same("pass()", MilkTruce.STATE, m -> m.pass());
        same("clover(10)", outside, m -> m.clover(10));
        same("cow(3, 9)", unknown, m -> m.cow(3, 9));
        same("cow(0, 5)", outside, m -> m.cow(0, 5));
        same("move(3, 10)", unknown, m -> m.move(3, 10));
        same("move(0, 10)", outside, m -> m.move(0, 10));
        same("move(0, 9)", MilkTruce.STATE, m -> m.move(0, 9));
        same("sow(10)", outside, m -> m.sow(10));
        same("sorts(9)", outside, m -> m.sorts(9));
        same("on(0)", outside, m -> m.on(0));
        same("milk(2, 8)", outside, m -> m.milk(2, 8));
        same("graze(0, 8, true, 3)", outside, m -> m.graze(0, 8, true, 3));
        same("fewest(9, true)", outside, m -> m.fewest(9, true));
        same("judge(2, 100)", outside, m -> m.judge(2, 100));
        same("share(3, 9, true)", unknown, m -> m.share(3, 9, true));
        same("share(0, 9, true)", outside, m -> m.share(0, 9, true));
        same("rang(3, 8)", outside, m -> m.rang(3, 8));
        same("tell(3, 8, true)", unknown, m -> m.tell(3, 8, true));
        same("tell(0, 8, true)", outside, m -> m.tell(0, 8, true));
        same("tell(0, 7, true)", MilkTruce.FULL, m -> m.tell(0, 7, true));
        same("full(3)", unknown, m -> m.full(3));
        same("rests(8, 2)", outside, m -> m.rests(8, 2));
        same("chance(7, 5, true)", outside, m -> m.chance(7, 5, true));
        same("summers(31)", outside, m -> m.summers(31));
        same("keep(2)", unknown, m -> m.keep(2));
        same("again(2)", unknown, m -> m.again(2));
        same("again(0)", MilkTruce.STATE, m -> m.again(0));
        same("count(10)", outside, m -> m.count(10));
    }

    private static void looks() {
        same("fault()", SOME, m -> m.fault());
        same("clover(0)", SOME, m -> m.clover(0));
        same("cow(0, 2)", SOME, m -> m.cow(0, 2));
        same("sorts(8)", SOME, m -> m.sorts(8));
        same("on(8)", SOME, m -> m.on(8));
        same("milk(0, 8)", SOME, m -> m.milk(0, 8));
        same("graze(0, 8, true, 0)", SOME, m -> m.graze(0, 8, true, 0));
        same("graze(1, 8, false, 2)", SOME, m -> m.graze(1, 8, false, 2));
        same("fewest(8, true)", SOME, m -> m.fewest(8, true));
        same("judge(8, 0)", SOME, m -> m.judge(8, 0));
        same("share(0, 8, true)", SOME, m -> m.share(0, 8, true));
        same("rang(8, 255)", SOME, m -> m.rang(8, 255));
        same("full(0)", SOME, m -> m.full(0));
        same("rests(8, 0)", SOME, m -> m.rests(8, 0));
        same("rests(8, 1)", SOME, m -> m.rests(8, 1));
        same("chance(6, 5, true)", SOME, m -> m.chance(6, 5, true));
        same("keep(0)", SOME, m -> m.keep(0));
        same("count(7)", SOME, m -> m.count(7));
        summers();
    }

    private static void summers() {
        MilkTruce x = Scene.busy();
        String seen = Due.look(x);
        x.summers(30);
        T.due("summers(30) changes the seed alone", Due.look(x).equals(seen) ? 1 : 0, 1);
        T.due("summers(30) changes the seed", x.seed(11) != 11 ? 1 : 0, 1);
        Scene.leaves(T, "summers(30)", x);
    }
}
