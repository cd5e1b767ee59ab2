import java.util.function.ToLongFunction;

/** Objects on which something is everywhere, to see that a call is refused, or not, and what it changes. */
final class Scene {
    /** Any answer will do. */
    static final int SOME = Integer.MIN_VALUE;
    static final String SIX_COWS = "MK0000K1000K2000K3000K4000K5000";

    private Scene() {
    }

    /** Three cows; five acts; slot 1 kept, slot 0 not; six told of a cow; the seed 11; the text full, with a fault. */
    static MilkTruce busy() {
        MilkTruce x = Due.pass("MG09G13K0050K5143K9191");
        x.hour(false);
        x.sow(2);
        x.keep(1);
        x.move(1, 3);
        x.snow();
        x.snow();
        for (int i = 0; i < 6; i++) {
            x.tell(2, i, false);
        }
        x.seed(11);
        while (x.count(0) < 64) {
            x.write('K');
        }
        return x;
    }

    /** Three cows, on the cells 3 to 5; both slots kept; nothing told; letters may come yet. */
    static MilkTruce free() {
        MilkTruce x = Due.pass("MK3050K4143K5091");
        x.keep(0);
        x.keep(1);
        return x;
    }

    /** Answers as wanted on a busy scene, and all is as it was. */
    static void same(Due t, String call, int want, ToLongFunction<MilkTruce> asked) {
        // A new one for each call, for an object is used for 512 calls at most.
        MilkTruce x = busy();
        String seen = Due.look(x);
        long got = asked.applyAsLong(x);
        t.due(call, got, want == SOME ? got : want);
        t.due(call + " changes nothing", Due.look(x).equals(seen) ? 1 : 0, 1);
        t.due(call + " leaves the seed", x.seed(11), 11);
        leaves(t, call, x);
    }

    /** The row of acts, what was kept, and the letters of the text of a busy scene are as they were. */
    static void leaves(Due t, String call, MilkTruce x) {
        int[] cells = {0, 5, 5, 3, 3};
        for (int left = 4; left >= 1; left--) {
            t.due(call + ": undo()", x.undo(), left);
            t.due(call + ": the cell with " + left + " acts", x.cow(1, 0), cells[left]);
        }
        t.due(call + ": clover behind undo", x.clover(2), 0);
        t.due(call + ": the hour behind undo", x.count(2), 1);
        t.due(call + ": undo() of the hour", x.undo(), 0);
        t.due(call + ": full behind undo", x.cow(0, 2), 5);
        t.due(call + ": again(1)", x.again(1), 1);
        t.due(call + ": clover kept", x.clover(2), 1);
        t.due(call + ": cell kept", x.cow(1, 0), 5);
        t.due(call + ": wipe()", x.wipe(), 64);
    }

    /** A new object of the pass of some letters answers as wanted. */
    static void answers(Due t, String letters, String call, long want, ToLongFunction<MilkTruce> asked) {
        t.due(letters + ": " + call, asked.applyAsLong(Due.pass(letters)), want);
    }
}
