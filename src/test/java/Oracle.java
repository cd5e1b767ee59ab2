import java.math.BigInteger;
import java.util.ArrayList;
import java.util.Arrays;
import java.util.List;
import java.util.regex.Pattern;

/** The document once more, written as plainly as it goes and with no care for time: answers to hold others against. */
final class Oracle {
    static final int UNKNOWN = -1, OUTSIDE = -2, STATE = -3, FULL = -4, NONE = -9;

    static final class Cow {
        int cell, side, full, kind;

        Cow(int cell, int side, int full, int kind) {
            this.cell = cell;
            this.side = side;
            this.full = full;
            this.kind = kind;
        }

        boolean due() {
            return kind == 1 ? full >= 9 : kind != 2 && full >= 6;
        }
    }

    /** All of a moment; hours make it another one. */
    static final class Moment {
        int[] clover = new int[10];
        List<Cow> cows = new ArrayList<>();
        boolean snow;
        int[] pails = new int[2];
        int hour, war;

        Moment copy() {
            Moment other = new Moment();
            other.clover = clover.clone();
            for (Cow c : cows) {
                other.cows.add(new Cow(c.cell, c.side, c.full, c.kind));
            }
            other.snow = snow;
            other.pails = pails.clone();
            other.hour = hour;
            other.war = war;
            return other;
        }

        int sort(boolean rung) {
            if (snow) {
                return 3;
            }
            boolean stop = rung;
            boolean warned = false;
            for (Cow c : cows) {
                stop |= c.due();
                warned |= c.kind == 3 && c.full == 5;
            }
            return stop ? 1 : warned ? 2 : 0;
        }

        int pass(boolean rung) {
            int sort = sort(rung);
            if (sort == 1) {
                for (Cow c : cows) {
                    if (c.due()) {
                        pails[c.side] += c.full;
                        c.full = 0;
                    }
                }
            }
            if (sort != 3) {
                for (Cow c : cows) {
                    int there = clover[c.cell];
                    if (there >= 1) {
                        c.full += there >= 5 ? 2 : 1;
                        c.full = c.full > 9 ? 9 : c.full;
                        clover[c.cell] = there - 1;
                    }
                }
            }
            war += sort == 0 ? 1 : 0;
            hour++;
            return sort;
        }

        boolean grazed(int cell) {
            for (Cow c : cows) {
                if (c.cell == cell) {
                    return true;
                }
            }
            return false;
        }

        int[] sorts(int n) {
            Moment m = copy();
            int[] sorts = new int[n];
            for (int i = 0; i < n; i++) {
                sorts[i] = m.pass(false);
            }
            return sorts;
        }

        int many(int sort, int n) {
            int many = 0;
            for (int s : sorts(n)) {
                many += s == sort ? 1 : 0;
            }
            return many;
        }
    }

    record Told(int cow, int hour, boolean due) { }

    /** A choice of a side: a cow and a cell, or -1 and -1. */
    record Choice(int cow, int cell) {
        int code() {
            return cow < 0 ? 0 : 10 * cow + cell + 1;
        }
    }

    final StringBuilder text = new StringBuilder();
    Moment now = new Moment();
    final List<Moment> acts = new ArrayList<>();
    final Moment[] kept = new Moment[2];
    final List<Told> told = new ArrayList<>();
    long seed;

    // ---- the pass

    int write(int letter) {
        if (letter < 0 || letter > 255) {
            return OUTSIDE;
        }
        if (text.length() == 64) {
            return FULL;
        }
        text.append((char) letter);
        return text.length();
    }

    int wipe() {
        int was = text.length();
        text.setLength(0);
        return was;
    }

    private static final Pattern PASS = Pattern.compile("M(G[0-9][1-9]|K[0-9][01][0-9][0-3])*");

    /** The pass that a text tells; null, if it tells none. */
    static Moment told(String text) {
        if (!PASS.matcher(text).matches()) {
            return null;
        }
        Moment m = new Moment();
        String rest = text.substring(1);
        while (!rest.isEmpty()) {
            int cell = rest.charAt(1) - '0';
            if (rest.charAt(0) == 'G') {
                if (m.clover[cell] != 0) {
                    return null;
                }
                m.clover[cell] = rest.charAt(2) - '0';
                rest = rest.substring(3);
            } else {
                if (m.grazed(cell) || m.cows.size() == 6) {
                    return null;
                }
                m.cows.add(new Cow(cell, rest.charAt(2) - '0', rest.charAt(3) - '0', rest.charAt(4) - '0'));
                rest = rest.substring(5);
            }
        }
        return m;
    }

    /** Whether letters can come behind a text so that it tells a pass: a part wants 4 at most. */
    private static boolean canBe(String text, int more) {
        if (told(text) != null) {
            return true;
        }
        if (more == 0) {
            return false;
        }
        // A part that can be told at all can be told with these figures, but for its cell.
        String next = text.isEmpty() ? "M" : "0123456789";
        for (int i = 0; i < next.length(); i++) {
            if (canBe(text + next.charAt(i), more - 1)) {
                return true;
            }
        }
        return false;
    }

    int fault() {
        String letters = text.toString();
        if (told(letters) != null) {
            return NONE;
        }
        for (int i = 0; i < letters.length(); i++) {
            if (!canBe(letters.substring(0, i + 1), 4)) {
                return i;
            }
        }
        return letters.length();
    }

    int pass() {
        Moment m = told(text.toString());
        if (m == null) {
            return STATE;
        }
        now = m;
        acts.clear();
        Arrays.fill(kept, null);
        return now.cows.size();
    }

    int clover(int cell) {
        return outside(cell, 0, 9) ? OUTSIDE : now.clover[cell];
    }

    int cow(int cow, int what) {
        if (unknown(cow)) {
            return UNKNOWN;
        }
        if (outside(what, 0, 4)) {
            return OUTSIDE;
        }
        Cow c = now.cows.get(cow);
        return new int[] {c.cell, c.side, c.full, c.kind, c.due() ? 1 : 0}[what];
    }

    // ---- acts

    private void act() {
        acts.add(now.copy());
        if (acts.size() > 14) {
            acts.remove(0);
        }
    }

    int hour(boolean rung) {
        act();
        return now.pass(rung);
    }

    int move(int cow, int cell) {
        if (unknown(cow)) {
            return UNKNOWN;
        }
        if (outside(cell, 0, 9)) {
            return OUTSIDE;
        }
        if (now.grazed(cell)) {
            return STATE;
        }
        act();
        int was = now.cows.get(cow).cell;
        now.cows.get(cow).cell = cell;
        return was;
    }

    int sow(int cell) {
        if (outside(cell, 0, 9)) {
            return OUTSIDE;
        }
        if (now.clover[cell] == 9) {
            return FULL;
        }
        act();
        return ++now.clover[cell];
    }

    int snow() {
        act();
        now.snow = !now.snow;
        return now.snow ? 1 : 0;
    }

    int undo() {
        if (acts.isEmpty()) {
            return STATE;
        }
        now = acts.remove(acts.size() - 1);
        return acts.size();
    }

    // ---- ahead

    int sorts(int n) {
        if (outside(n, 1, 8)) {
            return OUTSIDE;
        }
        StringBuilder figures = new StringBuilder();
        for (int sort : now.sorts(n)) {
            figures.append(sort);
        }
        return Integer.parseInt(figures.toString());
    }

    int on(int n) {
        return outside(n, 1, 8) ? OUTSIDE : now.many(0, n);
    }

    int milk(int side, int n) {
        if (outside(side, 0, 1) || outside(n, 1, 8)) {
            return OUTSIDE;
        }
        Moment m = now.copy();
        m.pails[side] = 0;
        for (int i = 0; i < n; i++) {
            m.pass(false);
        }
        return m.pails[side];
    }

    private List<Choice> choices(int side) {
        List<Choice> all = new ArrayList<>();
        all.add(new Choice(-1, -1));
        for (int cow = 0; cow < now.cows.size(); cow++) {
            for (int cell = 0; cell < 10; cell++) {
                if (now.cows.get(cow).side == side && !now.grazed(cell)) {
                    all.add(new Choice(cow, cell));
                }
            }
        }
        return all;
    }

    private int onBy(int n, Choice... choices) {
        Moment m = now.copy();
        for (Choice c : choices) {
            if (c.cow >= 0) {
                m.cows.get(c.cow).cell = c.cell;
            }
        }
        return m.many(0, n);
    }

    int graze(int side, int n, boolean most, int what) {
        if (outside(side, 0, 1) || outside(n, 1, 8) || outside(what, 0, 2)) {
            return OUTSIDE;
        }
        List<Choice> all = choices(side);
        int best = most ? -1 : 99;
        for (Choice c : all) {
            best = most ? Math.max(best, onBy(n, c)) : Math.min(best, onBy(n, c));
        }
        for (Choice c : all) {
            if (onBy(n, c) == best) {
                return what == 2 ? best : c.cow < 0 ? NONE : what == 0 ? c.cow : c.cell;
            }
        }
        throw new IllegalStateException();
    }

    int fewest(int n, boolean row) {
        if (outside(n, 1, 8)) {
            return OUTSIDE;
        }
        for (int many = 0; many <= 3; many++) {
            int least = Integer.MAX_VALUE;
            for (int a = 0; a < (many > 0 ? 10 : 1); a++) {
                for (int b = 0; b < (many > 1 ? 10 : 1); b++) {
                    for (int c = 0; c < (many > 2 ? 10 : 1); c++) {
                        int[] cells = Arrays.copyOf(new int[] {a, b, c}, many);
                        least = Math.min(least, rowThatStops(cells, n));
                    }
                }
            }
            if (least < Integer.MAX_VALUE) {
                return row ? least : many;
            }
        }
        return NONE;
    }

    private int rowThatStops(int[] cells, int n) {
        Moment m = now.copy();
        StringBuilder figures = new StringBuilder("1");
        for (int i = 0; i < cells.length; i++) {
            boolean falls = i > 0 && cells[i] < cells[i - 1];
            if (falls || ++m.clover[cells[i]] > 9) {
                return Integer.MAX_VALUE;
            }
            figures.append(cells[i]);
        }
        return m.sorts(n)[n - 1] == 1 ? Integer.parseInt(figures.toString()) : Integer.MAX_VALUE;
    }

    int judge(int n, int row) {
        if (outside(n, 1, 8) || row < 0 || String.valueOf(row).length() > n) {
            return OUTSIDE;
        }
        String figures = String.format("%0" + n + "d", row);
        int[] sorts = now.sorts(n);
        for (int i = 0; i < n; i++) {
            if (figures.charAt(i) - '0' != sorts[i]) {
                return i;
            }
        }
        return NONE;
    }

    int share(int cow, int n, boolean upper) {
        if (unknown(cow)) {
            return UNKNOWN;
        }
        if (outside(n, 1, 8)) {
            return OUTSIDE;
        }
        int[] sum = new int[2];
        inEachOrder(new ArrayList<>(), cow, n, sum);
        return fraction(sum[0], sum[1], upper);
    }

    private void inEachOrder(List<Integer> come, int cow, int n, int[] sum) {
        for (int next = 0; next < now.cows.size(); next++) {
            if (come.contains(next)) {
                continue;
            }
            List<Integer> then = new ArrayList<>(come);
            then.add(next);
            if (next == cow) {
                // The others come behind it in as many orders as there are of them.
                int orders = 1;
                for (int left = now.cows.size() - then.size(); left > 1; left--) {
                    orders *= left;
                }
                sum[0] += orders * (stopsOf(then, n) - stopsOf(come, n));
                sum[1] += orders;
            } else {
                inEachOrder(then, cow, n, sum);
            }
        }
    }

    private int stopsOf(List<Integer> there, int n) {
        Moment m = now.copy();
        m.cows.clear();
        for (int cow : there) {
            Cow c = now.cows.get(cow);
            m.cows.add(new Cow(c.cell, c.side, c.full, c.kind));
        }
        return m.many(1, n);
    }

    private static int fraction(long above, long below, boolean upper) {
        BigInteger common = BigInteger.valueOf(above).gcd(BigInteger.valueOf(below));
        return BigInteger.valueOf(upper ? above : below).divide(common).intValueExact();
    }

    // ---- who rang, what was due

    int rang(int n, int stops) {
        if (outside(n, 1, 8) || outside(stops, 0, (1 << n) - 1)) {
            return OUTSIDE;
        }
        if (now.snow) {
            return NONE;
        }
        // Of all ways to ring, the one by which it stopped as told and nobody rings where a cow is due.
        for (int bells = 0; bells < 1 << n; bells++) {
            Moment m = now.copy();
            boolean can = true;
            for (int i = 0; i < n; i++) {
                boolean bell = (bells >> i & 1) == 1;
                can &= !(bell && m.sort(false) == 1);
                can &= (m.pass(bell) == 1) == ((stops >> i & 1) == 1);
            }
            if (can) {
                return bells;
            }
        }
        return NONE;
    }

    int tell(int cow, int hour, boolean due) {
        if (unknown(cow)) {
            return UNKNOWN;
        }
        if (outside(hour, 0, 7)) {
            return OUTSIDE;
        }
        if (told.size() == 6) {
            return FULL;
        }
        told.add(new Told(cow, hour, due));
        return told.size();
    }

    int untell() {
        int were = told.size();
        told.clear();
        return were;
    }

    int full(int cow) {
        if (unknown(cow)) {
            return UNKNOWN;
        }
        int bits = 0;
        for (int full = 0; full <= 9; full++) {
            boolean so = true;
            for (Told t : told) {
                Moment m = now.copy();
                m.cows.get(cow).full = full;
                for (int i = 0; i < t.hour; i++) {
                    m.pass(false);
                }
                so &= t.cow >= m.cows.size() || m.cows.get(t.cow).due() == t.due;
            }
            bits += so ? 1 << full : 0;
        }
        return bits;
    }

    // ---- sides, chances

    int rests(int n, int what) {
        if (outside(n, 1, 8) || outside(what, 0, 1)) {
            return OUTSIDE;
        }
        List<Choice> ones = choices(0);
        List<Choice> others = choices(1);
        int[][] on = new int[ones.size()][others.size()];
        for (int i = 0; i < ones.size(); i++) {
            for (int j = 0; j < others.size(); j++) {
                on[i][j] = can(ones.get(i), others.get(j)) ? onBy(n, ones.get(i), others.get(j)) : NONE;
            }
        }
        int many = 0;
        int first = NONE;
        for (int i = 0; i < ones.size(); i++) {
            for (int j = 0; j < others.size(); j++) {
                if (on[i][j] != NONE && rests(on, i, j)) {
                    many++;
                    first = many == 1 ? 1000 * ones.get(i).code() + others.get(j).code() : first;
                }
            }
        }
        return what == 0 ? many : first;
    }

    private static boolean can(Choice one, Choice other) {
        return one.cow < 0 || other.cow < 0 || one.cell != other.cell;
    }

    private static boolean rests(int[][] on, int i, int j) {
        for (int[] row : on) {
            if (row[j] != NONE && row[j] > on[i][j]) {
                return false;
            }
        }
        for (int instead : on[i]) {
            if (instead != NONE && instead < on[i][j]) {
                return false;
            }
        }
        return true;
    }

    int chance(int n, int x, boolean upper) {
        if (outside(n, 1, 6) || outside(x, 0, 10)) {
            return OUTSIDE;
        }
        long below = 1;
        for (int i = 0; i < n; i++) {
            below *= 10;
        }
        return fraction(waysToStop(now, n, x), below, upper);
    }

    private static long waysToStop(Moment m, int n, int x) {
        long ways = 0;
        for (int tenth = 0; tenth < 10; tenth++) {
            Moment then = m.copy();
            then.snow = tenth < x;
            int sort = then.pass(false);
            if (n == 1) {
                ways += sort == 1 ? 1 : 0;
            } else if (tenth == 0 || tenth == x) {
                // The tenths of one kind go on alike.
                int alike = tenth < x ? x : 10 - x;
                ways += alike * waysToStop(then, n - 1, x);
            }
        }
        return ways;
    }

    long seed(long v) {
        long was = seed;
        seed = v;
        return was;
    }

    int summers(int m) {
        if (outside(m, 1, 30)) {
            return OUTSIDE;
        }
        Moment then = now.copy();
        then.pails = new int[2];
        for (int i = 0; i < m; i++) {
            BigInteger x = BigInteger.valueOf(seed).multiply(new BigInteger("6364136223846793005"))
                .add(new BigInteger("1442695040888963407")).mod(BigInteger.ONE.shiftLeft(64));
            seed = x.longValue();
            int left = x.shiftRight(33).mod(BigInteger.valueOf(20)).intValueExact();
            if (left <= 9 && then.clover[left] < 9) {
                then.clover[left]++;
            }
            then.snow = left == 10 || left == 11;
            then.pass(false);
        }
        return then.pails[0] - then.pails[1] + 1000;
    }

    // ---- slots

    int keep(int slot) {
        if (outside(slot, 0, 1)) {
            return UNKNOWN;
        }
        kept[slot] = now.copy();
        return now.hour;
    }

    int again(int slot) {
        if (outside(slot, 0, 1)) {
            return UNKNOWN;
        }
        if (kept[slot] == null) {
            return STATE;
        }
        now = kept[slot].copy();
        acts.clear();
        return now.hour;
    }

    int count(int what) {
        if (outside(what, 0, 9)) {
            return OUTSIDE;
        }
        return new int[] {text.length(), now.cows.size(), now.hour, now.snow ? 1 : 0, now.pails[0], now.pails[1],
            now.war, now.sort(false), acts.size(), told.size()}[what];
    }

    private boolean unknown(int cow) {
        return outside(cow, 0, now.cows.size() - 1);
    }

    private static boolean outside(int number, int least, int most) {
        return number < least || number > most;
    }
}
