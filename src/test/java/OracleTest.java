import java.util.Random;

/** Runs of calls by chance (the same ones each time), each answer held against the oracle's. */
public final class OracleTest {
    private static final Due T = new Due("OracleTest");
    private static final int RUNS = 600;
    private static final int CALLS = 512;
    private static final int[] EDGES = {Integer.MIN_VALUE, -10, -1, 0, 1, 9, 10, 31, 256, 1000000, Integer.MAX_VALUE};

    private final Random random;
    private final int run;
    private final MilkTruce x = new MilkTruce();
    private final Oracle o = new Oracle();
    private int calls;

    private OracleTest(int run) {
        this.run = run;
        random = new Random(run);
    }

    public static void main(String[] args) {
        for (int run = 0; run < RUNS; run++) {
            new OracleTest(run).go();
        }
        T.end();
    }

    private void go() {
        if (random.nextInt(10) > 0) {
            tellPass();
        }
        while (calls < CALLS - 61) {
            int kind = random.nextInt(100);
            if (kind < 2) {
                tellPass();
            } else if (kind < 5) {
                tellFaulty();
            } else {
                call(random.nextInt(35));
            }
        }
        lookAtAll();
    }

    private void due(String call, long got, long want) {
        calls++;
        T.due("run " + run + ", call " + calls + ": " + call, got, want);
    }

    private void write(String letters) {
        due("wipe()", x.wipe(), o.wipe());
        for (int i = 0; i < letters.length(); i++) {
            int letter = letters.charAt(i);
            due("write(" + letter + ")", x.write(letter), o.write(letter));
        }
    }

    private void tellPass() {
        if (calls > CALLS - 150) {
            return;
        }
        write(letters());
        due("fault()", x.fault(), o.fault());
        due("pass()", x.pass(), o.pass());
    }

    private void tellFaulty() {
        if (calls > CALLS - 150) {
            return;
        }
        StringBuilder letters = new StringBuilder(letters());
        int at = random.nextInt(letters.length());
        String some = "MGK0123456789X";
        switch (random.nextInt(3)) {
            case 0 -> letters.setLength(at);
            case 1 -> letters.setCharAt(at, some.charAt(random.nextInt(some.length())));
            default -> letters.insert(at, some.charAt(random.nextInt(some.length())));
        }
        write(letters.toString());
        due("fault() of " + letters, x.fault(), o.fault());
        due("pass()", x.pass(), o.pass());
    }

    /** The letters of a pass, most often: parts in any order, cows with much to eat. */
    private String letters() {
        StringBuilder letters = new StringBuilder("M");
        int cows = random.nextInt(7);
        int grazed = 0;
        int grown = 0;
        while (letters.length() < 60) {
            int cell = random.nextInt(10);
            if (cows > 0 && random.nextBoolean()) {
                if ((grazed >> cell & 1) == 0) {
                    grazed |= 1 << cell;
                    cows--;
                    letters.append('K').append(cell).append(random.nextInt(2)).append(random.nextInt(10))
                        .append(random.nextInt(3) > 0 ? random.nextInt(4) : 0);
                }
            } else if ((grown >> cell & 1) == 0) {
                grown |= 1 << cell;
                letters.append('G').append(cell).append(1 + random.nextInt(9));
            } else if (cows == 0 && random.nextInt(3) == 0) {
                break;
            }
        }
        return letters.toString();
    }

    /** A number that is mostly from least to most, else beside them, or far off. */
    private int from(int least, int most) {
        int kind = random.nextInt(40);
        if (kind == 0) {
            return EDGES[random.nextInt(EDGES.length)];
        }
        if (kind == 1) {
            return random.nextBoolean() ? least - 1 : most + 1;
        }
        return least + random.nextInt(most - least + 1);
    }

    private int aCow() {
        return from(0, Math.max(0, o.now.cows.size() - 1));
    }

    private void call(int which) {
        if (which < 14) {
            act(which);
        } else if (which < 26) {
            lookAhead(which);
        } else {
            lookAround(which);
        }
    }

    private void act(int which) {
        int cow = aCow();
        int cell = from(0, 9);
        boolean rung = random.nextInt(5) == 0;
        switch (which) {
            case 0, 1, 2, 3 -> due("hour(" + rung + ")", x.hour(rung), o.hour(rung));
            case 4, 5 -> due("move(" + cow + ", " + cell + ")", x.move(cow, cell), o.move(cow, cell));
            case 6, 7, 8 -> due("sow(" + cell + ")", x.sow(cell), o.sow(cell));
            case 9 -> {
                // Snow goes soon, so that there is much to see.
                if (o.now.snow || random.nextInt(3) == 0) {
                    due("snow()", x.snow(), o.snow());
                }
            }
            case 10 -> {
                int times = random.nextInt(4) == 0 ? 16 : random.nextInt(4);
                for (int i = 0; i < times && calls < CALLS - 80; i++) {
                    due("undo()", x.undo(), o.undo());
                }
            }
            case 11 -> {
                int slot = from(0, 1);
                due("keep(" + slot + ")", x.keep(slot), o.keep(slot));
            }
            case 12 -> {
                int slot = from(0, 1);
                due("again(" + slot + ")", x.again(slot), o.again(slot));
            }
            default -> {
                long seed = random.nextBoolean() ? random.nextLong() : random.nextInt(5) - 2;
                due("seed(" + seed + ")", x.seed(seed), o.seed(seed));
            }
        }
    }

    private void lookAhead(int which) {
        int n = from(1, 8);
        int side = from(0, 1);
        int cow = aCow();
        boolean flag = random.nextBoolean();
        switch (which) {
            case 14 -> due("sorts(" + n + ")", x.sorts(n), o.sorts(n));
            case 15 -> due("on(" + n + ")", x.on(n), o.on(n));
            case 16 -> due("milk(" + side + ", " + n + ")", x.milk(side, n), o.milk(side, n));
            case 17, 18 -> {
                int what = from(0, 2);
                due("graze(" + side + ", " + n + ", " + flag + ", " + what + ")",
                    x.graze(side, n, flag, what), o.graze(side, n, flag, what));
            }
            case 19, 20 -> due("fewest(" + n + ", " + flag + ")", x.fewest(n, flag), o.fewest(n, flag));
            case 21, 22 -> {
                int row = aRow(n);
                due("judge(" + n + ", " + row + ")", x.judge(n, row), o.judge(n, row));
            }
            case 23 -> due("share(" + cow + ", " + n + ", " + flag + ")",
                x.share(cow, n, flag), o.share(cow, n, flag));
            default -> {
                int stops = someStops(n);
                due("rang(" + n + ", " + stops + ")", x.rang(n, stops), o.rang(n, stops));
            }
        }
    }

    /** Sorts as they will be, with one changed or not, or any number. */
    private int aRow(int n) {
        int sorts = o.sorts(n);
        if (sorts < 0 || random.nextInt(4) == 0) {
            return from(0, 99999999);
        }
        int worth = 1;
        for (int i = random.nextInt(n + 1); i > 0; i--) {
            worth *= 10;
        }
        return sorts + (random.nextBoolean() ? worth : 0);
    }

    /** Stops as they will be and some more, so that it mostly can be. */
    private int someStops(int n) {
        int stops = from(0, 255);
        if (n < 1 || n > 8 || random.nextInt(4) == 0) {
            return stops;
        }
        stops &= (1 << n) - 1;
        int[] sorts = o.now.sorts(n);
        for (int i = 0; i < n; i++) {
            stops |= sorts[i] == 1 ? 1 << i : 0;
        }
        return stops;
    }

    private void lookAround(int which) {
        int cow = aCow();
        int n = from(1, 8);
        boolean flag = random.nextBoolean();
        switch (which) {
            case 26, 27 -> {
                int hour = from(0, 7);
                boolean due = random.nextInt(4) == 0 ? flag : willBeDue(cow, hour);
                due("tell(" + cow + ", " + hour + ", " + due + ")", x.tell(cow, hour, due), o.tell(cow, hour, due));
                due("full(" + cow + ")", x.full(cow), o.full(cow));
            }
            case 28 -> due("full(" + cow + ")", x.full(cow), o.full(cow));
            case 29 -> {
                if (o.told.size() > 2) {
                    due("untell()", x.untell(), o.untell());
                }
            }
            case 30 -> {
                int what = from(0, 1);
                due("rests(" + n + ", " + what + ")", x.rests(n, what), o.rests(n, what));
            }
            case 31 -> {
                int hours = from(1, 6);
                int tenths = from(0, 10);
                due("chance(" + hours + ", " + tenths + ", " + flag + ")",
                    x.chance(hours, tenths, flag), o.chance(hours, tenths, flag));
            }
            case 32 -> {
                int hours = from(1, 30);
                due("summers(" + hours + ")", x.summers(hours), o.summers(hours));
            }
            case 33 -> {
                int what = from(0, 9);
                due("count(" + what + ")", x.count(what), o.count(what));
                due("clover(" + what + ")", x.clover(what), o.clover(what));
            }
            default -> {
                int what = from(0, 4);
                due("cow(" + cow + ", " + what + ")", x.cow(cow, what), o.cow(cow, what));
                int letter = from(0, 255);
                due("write(" + letter + ")", x.write(letter), o.write(letter));
                due("fault()", x.fault(), o.fault());
            }
        }
    }

    private boolean willBeDue(int cow, int hour) {
        if (cow < 0 || cow >= o.now.cows.size() || hour < 0 || hour > 7) {
            return true;
        }
        Oracle.Moment then = o.now.copy();
        for (int i = 0; i < hour; i++) {
            then.pass(false);
        }
        return then.cows.get(cow).due();
    }

    private void lookAtAll() {
        for (int what = 0; what <= 9; what++) {
            due("count(" + what + ")", x.count(what), o.count(what));
            due("clover(" + what + ")", x.clover(what), o.clover(what));
        }
        for (int cow = 0; cow < o.now.cows.size(); cow++) {
            for (int what = 0; what <= 4; what++) {
                due("cow(" + cow + ", " + what + ")", x.cow(cow, what), o.cow(cow, what));
            }
        }
        due("seed(0)", x.seed(0), o.seed(0));
    }
}
