/** A war on a pass that stops as often as a cow of either side is due. */
public final class MilkTruce {
    public static final int UNKNOWN = -1, OUTSIDE = -2, STATE = -3, FULL = -4, NONE = -9;

    private static final int CELLS = 10;
    private static final int COWS = 6;
    private static final int SIDES = 2;
    private static final int LETTERS = 64;
    private static final int ACTS = 14;
    private static final int SLOTS = 2;
    private static final int TELLINGS = 6;
    private static final int HOURS_AHEAD = 8;
    private static final int HOURS_OF_CHANCE = 6;
    private static final int HOURS_OF_SUMMER = 30;
    private static final int MOST_SOWN = 3;

    private static final int MOST_CLOVER = 9;
    private static final int RICH_CLOVER = 5;
    private static final int FULLEST = 9;
    private static final int DUE_AT = 6;
    private static final int TAUGHT_DUE_AT = 9;
    private static final int WARNS_AT = 5;
    private static final int TAUGHT = 1, DRY = 2, WHITE = 3;
    private static final int WAR = 0, STOP = 1, WARNED = 2, SNOWED = 3;

    /** A choice is 0 (no cow moves) or 10 times the cow, and the cell, and 1. */
    private static final int NO_MOVE = 0;
    /** Of m cows each has 10 - m free cells: 5 times 5 is the most, and no move. */
    private static final int MOST_CHOICES = 26;
    /** The most pairs: of 5 cows 2 on one side, 3 on the other: 11 times 16. */
    private static final int MOST_PAIRS = 176;
    private static final int CAN_NOT_BE = -1;

    private static final long SEED_TIMES = 6364136223846793005L;
    private static final long SEED_AND = 1442695040888963407L;
    private static final int SUMMER_CASES = 20;
    private static final int SNOWS_FROM = 10, SNOWS_TO = 11;
    private static final int SUMMERS_AND = 1000;

    private final PassText text;
    private final Herd herd;
    private final Meadow meadow;
    /** Where hours are tried out, so that the meadow stays as it is. */
    private final Meadow trial;
    private final ActRow acts;
    private final Shelf kept;
    private final boolean[] isKept;
    private final Tellings tellings;
    private final Choices choicesOfSide0;
    private final Choices choicesOfSide1;
    private final int[] pairHours;
    private long seedNow;

    public MilkTruce() {
        text = new PassText();
        herd = new Herd();
        meadow = new Meadow(herd);
        trial = new Meadow(herd);
        acts = new ActRow(herd);
        kept = new Shelf(SLOTS, herd);
        isKept = new boolean[SLOTS];
        tellings = new Tellings();
        choicesOfSide0 = new Choices();
        choicesOfSide1 = new Choices();
        pairHours = new int[MOST_PAIRS];
    }

    // ---- the pass

    public int write(int letter) {
        if (letter < 0 || letter > 255) {
            return OUTSIDE;
        }
        return text.add(letter) ? text.size() : FULL;
    }

    public int wipe() {
        int was = text.size();
        text.clear();
        return was;
    }

    public int fault() {
        return text.faultPlace();
    }

    public int pass() {
        if (text.faultPlace() != NONE) {
            return STATE;
        }
        herd.clear();
        meadow.clear();
        text.tellTo(meadow);
        acts.clear();
        for (int slot = 0; slot < SLOTS; slot++) {
            isKept[slot] = false;
        }
        return herd.size();
    }

    public int clover(int cell) {
        return isCell(cell) ? meadow.cloverOn(cell) : OUTSIDE;
    }

    public int cow(int cow, int what) {
        if (!herd.has(cow)) {
            return UNKNOWN;
        }
        switch (what) {
            case 0: return meadow.cellOf(cow);
            case 1: return herd.sideOf(cow);
            case 2: return meadow.fullnessOf(cow);
            case 3: return herd.kindOf(cow);
            case 4: return meadow.isDue(cow) ? 1 : 0;
            default: return OUTSIDE;
        }
    }

    // ---- acts

    public int hour(boolean rung) {
        acts.remember(meadow);
        return meadow.hourComes(rung);
    }

    public int move(int cow, int cell) {
        if (!herd.has(cow)) {
            return UNKNOWN;
        }
        if (!isCell(cell)) {
            return OUTSIDE;
        }
        if (meadow.isGrazed(cell)) {
            return STATE;
        }
        acts.remember(meadow);
        int was = meadow.cellOf(cow);
        meadow.putCow(cow, cell);
        return was;
    }

    public int sow(int cell) {
        if (!isCell(cell)) {
            return OUTSIDE;
        }
        if (!meadow.maySow(cell)) {
            return FULL;
        }
        acts.remember(meadow);
        meadow.sowOn(cell);
        return meadow.cloverOn(cell);
    }

    public int snow() {
        acts.remember(meadow);
        meadow.letSnow(!meadow.isSnowing());
        return meadow.isSnowing() ? 1 : 0;
    }

    public int undo() {
        if (acts.size() == 0) {
            return STATE;
        }
        acts.takeBack(meadow);
        return acts.size();
    }

    // ---- ahead

    public int sorts(int n) {
        if (!isAhead(n)) {
            return OUTSIDE;
        }
        trial.become(meadow);
        int figures = 0;
        for (int i = 0; i < n; i++) {
            figures = 10 * figures + trial.hourComes(false);
        }
        return figures;
    }

    public int on(int n) {
        return isAhead(n) ? hoursOnAfter(NO_MOVE, NO_MOVE, n) : OUTSIDE;
    }

    public int milk(int side, int n) {
        if (!isSide(side) || !isAhead(n)) {
            return OUTSIDE;
        }
        trial.become(meadow);
        trial.lastSortOf(n);
        return trial.pailsOf(side) - meadow.pailsOf(side);
    }

    public int graze(int side, int n, boolean most, int what) {
        if (!isSide(side) || !isAhead(n) || what < 0 || what > 2) {
            return OUTSIDE;
        }
        Choices own = choicesOf(side);
        int best = NO_MOVE;
        int bestOn = hoursOnAfter(NO_MOVE, NO_MOVE, n);
        for (int i = 0; i < own.size(); i++) {
            int hoursOn = hoursOnAfter(own.at(i), NO_MOVE, n);
            if (most ? hoursOn > bestOn : hoursOn < bestOn) {
                best = own.at(i);
                bestOn = hoursOn;
            }
        }
        if (what == 2) {
            return bestOn;
        }
        if (best == NO_MOVE) {
            return NONE;
        }
        return what == 0 ? cowOfChoice(best) : cellOfChoice(best);
    }

    public int fewest(int n, boolean row) {
        if (!isAhead(n)) {
            return OUTSIDE;
        }
        int rows = 1;
        for (int sown = 0; sown <= MOST_SOWN; sown++) {
            for (int figures = 0; figures < rows; figures++) {
                if (stopsAfterSowing(sown, figures, n)) {
                    return row ? rows + figures : sown;
                }
            }
            rows *= 10;
        }
        return NONE;
    }

    public int judge(int n, int row) {
        if (!isAhead(n) || row < 0 || row >= powerOfTen(n)) {
            return OUTSIDE;
        }
        trial.become(meadow);
        int worth = powerOfTen(n - 1);
        for (int place = 0; place < n && worth > 0; place++) {
            if (row / worth % 10 != trial.hourComes(false)) {
                return place;
            }
            worth /= 10;
        }
        return NONE;
    }

    public int share(int cow, int n, boolean upper) {
        if (!herd.has(cow)) {
            return UNKNOWN;
        }
        if (!isAhead(n)) {
            return OUTSIDE;
        }
        int cows = herd.size();
        int itself = 1 << cow;
        int above = 0;
        for (int others = 0; others < 1 << cows; others++) {
            if ((others & itself) == 0) {
                int before = Integer.bitCount(others);
                int orders = factorial(before) * factorial(cows - 1 - before);
                above += orders * (stopsOf(others | itself, n) - stopsOf(others, n));
            }
        }
        return termOf(above, factorial(cows), upper);
    }

    // ---- who rang, what was due

    public int rang(int n, int stops) {
        if (!isAhead(n) || stops < 0 || stops >= 1 << n) {
            return OUTSIDE;
        }
        if (meadow.isSnowing()) {
            return NONE;
        }
        trial.become(meadow);
        int bells = 0;
        for (int i = 0; i < n; i++) {
            boolean stopped = (stops >> i & 1) == 1;
            boolean due = trial.sortOfHour(false) == STOP;
            if (due && !stopped) {
                return NONE;
            }
            if (stopped && !due) {
                bells |= 1 << i;
            }
            trial.hourComes(stopped);
        }
        return bells;
    }

    public int tell(int cow, int hour, boolean due) {
        if (!herd.has(cow)) {
            return UNKNOWN;
        }
        if (hour < 0 || hour >= HOURS_AHEAD) {
            return OUTSIDE;
        }
        return tellings.add(cow, hour, due) ? tellings.size() : FULL;
    }

    public int untell() {
        int were = tellings.size();
        tellings.clear();
        return were;
    }

    public int full(int cow) {
        if (!herd.has(cow)) {
            return UNKNOWN;
        }
        int bits = 0;
        for (int fullness = 0; fullness <= FULLEST; fullness++) {
            trial.become(meadow);
            trial.fillCow(cow, fullness);
            if (isAllSoOfTrial()) {
                bits |= 1 << fullness;
            }
        }
        return bits;
    }

    // ---- sides, chances

    public int rests(int n, int what) {
        if (!isAhead(n) || what < 0 || what > 1) {
            return OUTSIDE;
        }
        Choices most = choicesOf(0);
        Choices least = choicesOf(1);
        int pairs = 0;
        for (int i = 0; i < most.size(); i++) {
            for (int j = 0; j < least.size() && pairs < MOST_PAIRS; j++) {
                pairHours[pairs] = hoursOnAfter(most.at(i), least.at(j), n);
                pairs++;
            }
        }
        int many = 0;
        int first = NONE;
        for (int i = 0; i < most.size(); i++) {
            for (int j = 0; j < least.size(); j++) {
                if (isAtRest(i, j, most.size(), least.size())) {
                    many++;
                    first = first == NONE ? 1000 * most.at(i) + least.at(j) : first;
                }
            }
        }
        return what == 0 ? many : first;
    }

    public int chance(int n, int x, boolean upper) {
        if (n < 1 || n > HOURS_OF_CHANCE || x < 0 || x > 10) {
            return OUTSIDE;
        }
        int above = 0;
        for (int snows = 0; snows < 1 << n; snows++) {
            if (stopsLastBySnows(snows, n)) {
                int snowy = Integer.bitCount(snows);
                above += power(x, snowy) * power(10 - x, n - snowy);
            }
        }
        return termOf(above, powerOfTen(n), upper);
    }

    public long seed(long v) {
        long was = seedNow;
        seedNow = v;
        return was;
    }

    public int summers(int m) {
        if (m < 1 || m > HOURS_OF_SUMMER) {
            return OUTSIDE;
        }
        trial.become(meadow);
        for (int i = 0; i < m; i++) {
            seedNow = seedNow * SEED_TIMES + SEED_AND;
            int left = (int) ((seedNow >>> 33) % SUMMER_CASES);
            if (isCell(left)) {
                trial.sowOn(left);
            }
            trial.letSnow(left >= SNOWS_FROM && left <= SNOWS_TO);
            trial.hourComes(false);
        }
        int ofSide0 = trial.pailsOf(0) - meadow.pailsOf(0);
        int ofSide1 = trial.pailsOf(1) - meadow.pailsOf(1);
        return ofSide0 - ofSide1 + SUMMERS_AND;
    }

    // ---- slots

    public int keep(int slot) {
        if (!isSlot(slot)) {
            return UNKNOWN;
        }
        kept.put(slot, meadow);
        isKept[slot] = true;
        return meadow.hourNow();
    }

    public int again(int slot) {
        if (!isSlot(slot)) {
            return UNKNOWN;
        }
        if (!isKept[slot]) {
            return STATE;
        }
        kept.take(slot, meadow);
        acts.clear();
        return meadow.hourNow();
    }

    public int count(int what) {
        switch (what) {
            case 0: return text.size();
            case 1: return herd.size();
            case 2: return meadow.hourNow();
            case 3: return meadow.isSnowing() ? 1 : 0;
            case 4: return meadow.pailsOf(0);
            case 5: return meadow.pailsOf(1);
            case 6: return meadow.hoursOfWar();
            case 7: return meadow.sortOfHour(false);
            case 8: return acts.size();
            case 9: return tellings.size();
            default: return OUTSIDE;
        }
    }

    // ---- what the calls have in common

    private static boolean isCell(int cell) {
        return cell >= 0 && cell < CELLS;
    }

    private static boolean isSide(int side) {
        return side >= 0 && side < SIDES;
    }

    private static boolean isSlot(int slot) {
        return slot >= 0 && slot < SLOTS;
    }

    private static boolean isAhead(int n) {
        return n >= 1 && n <= HOURS_AHEAD;
    }

    private static int cowOfChoice(int choice) {
        return (choice - 1) / 10;
    }

    private static int cellOfChoice(int choice) {
        return (choice - 1) % 10;
    }

    private static boolean areToOneCell(int choice, int other) {
        return choice != NO_MOVE && other != NO_MOVE && cellOfChoice(choice) == cellOfChoice(other);
    }

    private int hoursOnAfter(int choice, int other, int n) {
        if (areToOneCell(choice, other)) {
            return CAN_NOT_BE;
        }
        trial.become(meadow);
        trial.moveBy(choice);
        trial.moveBy(other);
        return trial.countOf(WAR, n);
    }

    private int stopsOf(int cows, int n) {
        trial.become(meadow);
        trial.sendAwayAllBut(cows);
        return trial.countOf(STOP, n);
    }

    private boolean stopsAfterSowing(int sown, int figures, int n) {
        trial.become(meadow);
        int worth = powerOfTen(sown);
        int last = 0;
        for (int i = 0; i < sown && worth >= 10; i++) {
            worth /= 10;
            int cell = figures / worth % 10;
            if (cell < last || !trial.maySow(cell)) {
                return false;
            }
            trial.sowOn(cell);
            last = cell;
        }
        return trial.lastSortOf(n) == STOP;
    }

    private boolean stopsLastBySnows(int snows, int n) {
        trial.become(meadow);
        int sort = NONE;
        for (int i = 0; i < n; i++) {
            trial.letSnow((snows >> i & 1) == 1);
            sort = trial.hourComes(false);
        }
        return sort == STOP;
    }

    private boolean isAllSoOfTrial() {
        for (int hour = 0; hour < HOURS_AHEAD; hour++) {
            if (!tellings.areSoOf(trial, hour)) {
                return false;
            }
            trial.hourComes(false);
        }
        return true;
    }

    private Choices choicesOf(int side) {
        Choices own = side == 0 ? choicesOfSide0 : choicesOfSide1;
        own.lookAt(meadow, side);
        return own;
    }

    private int hoursOfPair(int i, int j, int ofSide1) {
        int at = i * ofSide1 + j;
        return at >= 0 && at < MOST_PAIRS ? pairHours[at] : CAN_NOT_BE;
    }

    private boolean isAtRest(int i, int j, int ofSide0, int ofSide1) {
        int hoursOn = hoursOfPair(i, j, ofSide1);
        if (hoursOn == CAN_NOT_BE) {
            return false;
        }
        for (int k = 0; k < ofSide0; k++) {
            // CAN_NOT_BE is below all hours, so it is never better here.
            if (hoursOfPair(k, j, ofSide1) > hoursOn) {
                return false;
            }
        }
        for (int k = 0; k < ofSide1; k++) {
            int instead = hoursOfPair(i, k, ofSide1);
            if (instead != CAN_NOT_BE && instead < hoursOn) {
                return false;
            }
        }
        return true;
    }

    private static int termOf(int above, int below, boolean upper) {
        int common = commonDivisor(Math.abs(above), below);
        if (common == 0) {
            return upper ? above : below;
        }
        return (upper ? above : below) / common;
    }

    private static int commonDivisor(int one, int other) {
        int larger = one;
        int smaller = other;
        for (int i = 0; i < 64 && smaller != 0; i++) {
            int left = larger % smaller;
            larger = smaller;
            smaller = left;
        }
        return larger;
    }

    private static int powerOfTen(int times) {
        return power(10, times);
    }

    private static int power(int base, int times) {
        int product = 1;
        for (int i = 0; i < times; i++) {
            product *= base;
        }
        return product;
    }

    private static int factorial(int n) {
        int product = 1;
        for (int i = 2; i <= n; i++) {
            product *= i;
        }
        return product;
    }

    /** What stays of the cows as long as the pass does: how many, their sides and kinds. */
    private static final class Herd {
        private final int[] sides = new int[COWS];
        private final int[] kinds = new int[COWS];
        private int cows;

        void clear() {
            cows = 0;
        }

        void add(int side, int kind) {
            if (cows < COWS) {
                sides[cows] = side;
                kinds[cows] = kind;
                cows++;
            }
        }

        int size() {
            return cows;
        }

        boolean has(int cow) {
            return cow >= 0 && cow < cows && cow < COWS;
        }

        int sideOf(int cow) {
            return cow >= 0 && cow < COWS ? sides[cow] : NONE;
        }

        int kindOf(int cow) {
            return cow >= 0 && cow < COWS ? kinds[cow] : NONE;
        }
    }

    /** All that hours and the other acts change, and what is kept. */
    private static final class Meadow {
        private final Herd herd;
        private final int[] clover = new int[CELLS];
        private final int[] cells = new int[COWS];
        private final int[] fullnesses = new int[COWS];
        private final int[] pails = new int[SIDES];
        /** The cows that are there, as bits: for shares some are sent away. */
        private int here;
        private boolean snowing;
        private int hours;
        private int warHours;

        Meadow(Herd herd) {
            this.herd = herd;
        }

        void clear() {
            for (int cell = 0; cell < CELLS; cell++) {
                clover[cell] = 0;
            }
            for (int side = 0; side < SIDES; side++) {
                pails[side] = 0;
            }
            here = 0;
            snowing = false;
            hours = 0;
            warHours = 0;
        }

        void become(Meadow other) {
            System.arraycopy(other.clover, 0, clover, 0, CELLS);
            System.arraycopy(other.cells, 0, cells, 0, COWS);
            System.arraycopy(other.fullnesses, 0, fullnesses, 0, COWS);
            System.arraycopy(other.pails, 0, pails, 0, SIDES);
            here = other.here;
            snowing = other.snowing;
            hours = other.hours;
            warHours = other.warHours;
        }

        void addCow(int cell, int side, int fullness, int kind) {
            int cow = herd.size();
            herd.add(side, kind);
            if (herd.has(cow)) {
                here |= 1 << cow;
                cells[cow] = cell;
                fullnesses[cow] = fullness;
            }
        }

        void sendAwayAllBut(int cows) {
            here &= cows;
        }

        boolean isHere(int cow) {
            return cow >= 0 && cow < COWS && (here >> cow & 1) == 1;
        }

        boolean isOfSide(int cow, int side) {
            return isHere(cow) && herd.sideOf(cow) == side;
        }

        int cellOf(int cow) {
            return isHere(cow) ? cells[cow] : NONE;
        }

        int fullnessOf(int cow) {
            return isHere(cow) ? fullnesses[cow] : NONE;
        }

        void putCow(int cow, int cell) {
            if (isHere(cow) && isCell(cell)) {
                cells[cow] = cell;
            }
        }

        void fillCow(int cow, int fullness) {
            if (isHere(cow)) {
                fullnesses[cow] = fullness;
            }
        }

        void moveBy(int choice) {
            if (choice != NO_MOVE) {
                putCow(cowOfChoice(choice), cellOfChoice(choice));
            }
        }

        boolean isGrazed(int cell) {
            for (int cow = 0; cow < COWS; cow++) {
                if (isHere(cow) && cells[cow] == cell) {
                    return true;
                }
            }
            return false;
        }

        int cloverOn(int cell) {
            return isCell(cell) ? clover[cell] : 0;
        }

        void growOn(int cell, int much) {
            if (isCell(cell)) {
                clover[cell] = much;
            }
        }

        boolean maySow(int cell) {
            return isCell(cell) && clover[cell] < MOST_CLOVER;
        }

        void sowOn(int cell) {
            if (maySow(cell)) {
                clover[cell]++;
            }
        }

        boolean isSnowing() {
            return snowing;
        }

        void letSnow(boolean snows) {
            snowing = snows;
        }

        int pailsOf(int side) {
            return isSide(side) ? pails[side] : 0;
        }

        int hourNow() {
            return hours;
        }

        int hoursOfWar() {
            return warHours;
        }

        boolean isDue(int cow) {
            int kind = herd.kindOf(cow);
            return isHere(cow) && kind != DRY && fullnesses[cow] >= (kind == TAUGHT ? TAUGHT_DUE_AT : DUE_AT);
        }

        private boolean isWarning(int cow) {
            return isHere(cow) && herd.kindOf(cow) == WHITE && fullnesses[cow] == WARNS_AT;
        }

        int sortOfHour(boolean rung) {
            if (snowing) {
                return SNOWED;
            }
            if (rung) {
                return STOP;
            }
            int sort = WAR;
            for (int cow = 0; cow < COWS; cow++) {
                if (isDue(cow)) {
                    return STOP;
                }
                if (isWarning(cow)) {
                    sort = WARNED;
                }
            }
            return sort;
        }

        int hourComes(boolean rung) {
            int sort = sortOfHour(rung);
            if (sort == STOP) {
                milkDueCows();
            }
            if (sort != SNOWED) {
                letCowsEat();
            }
            if (sort == WAR) {
                warHours++;
            }
            hours++;
            return sort;
        }

        /** How many of n hours that come are of a sort. */
        int countOf(int sort, int n) {
            int many = 0;
            for (int i = 0; i < n; i++) {
                if (hourComes(false) == sort) {
                    many++;
                }
            }
            return many;
        }

        int lastSortOf(int n) {
            int sort = NONE;
            for (int i = 0; i < n; i++) {
                sort = hourComes(false);
            }
            return sort;
        }

        private void milkDueCows() {
            for (int cow = 0; cow < COWS; cow++) {
                int side = herd.sideOf(cow);
                if (isDue(cow) && isSide(side)) {
                    pails[side] += fullnesses[cow];
                    fullnesses[cow] = 0;
                }
            }
        }

        private void letCowsEat() {
            for (int cow = 0; cow < COWS; cow++) {
                int cell = cellOf(cow);
                int found = cloverOn(cell);
                if (found > 0) {
                    growOn(cell, found - 1);
                    int fuller = fullnesses[cow] + (found >= RICH_CLOVER ? 2 : 1);
                    fullnesses[cow] = Math.min(fuller, FULLEST);
                }
            }
        }
    }

    /** Places in which meadows are put down and from which they are taken up again. */
    private static final class Shelf {
        private final Meadow[] places;

        Shelf(int size, Herd herd) {
            places = new Meadow[Math.max(size, 0)];
            for (int i = 0; i < places.length; i++) {
                places[i] = new Meadow(herd);
            }
        }

        private Meadow at(int place) {
            return place >= 0 && place < places.length ? places[place] : null;
        }

        void put(int place, Meadow from) {
            Meadow there = at(place);
            if (there != null) {
                there.become(from);
            }
        }

        void take(int place, Meadow into) {
            Meadow there = at(place);
            if (there != null) {
                into.become(there);
            }
        }
    }

    /** The row of acts, each as the meadow was before it: a ring, so that the first can be forgotten. */
    private static final class ActRow {
        private final Shelf before;
        private int first;
        private int many;

        ActRow(Herd herd) {
            before = new Shelf(ACTS, herd);
        }

        void clear() {
            many = 0;
        }

        int size() {
            return many;
        }

        void remember(Meadow meadow) {
            before.put((first + many) % ACTS, meadow);
            if (many < ACTS) {
                many++;
            } else {
                first = (first + 1) % ACTS;
            }
        }

        void takeBack(Meadow into) {
            if (many > 0) {
                many--;
                before.take((first + many) % ACTS, into);
            }
        }
    }

    /** What was told of cows that were due, or were not. */
    private static final class Tellings {
        private final int[] cows = new int[TELLINGS];
        private final int[] hours = new int[TELLINGS];
        private final boolean[] dues = new boolean[TELLINGS];
        private int many;

        void clear() {
            many = 0;
        }

        int size() {
            return many;
        }

        boolean add(int cow, int hour, boolean due) {
            if (many >= TELLINGS) {
                return false;
            }
            cows[many] = cow;
            hours[many] = hour;
            dues[many] = due;
            many++;
            return true;
        }

        /** Whether all that was told of an hour is so of a meadow at its beginning. */
        boolean areSoOf(Meadow meadow, int hour) {
            for (int i = 0; i < many && i < TELLINGS; i++) {
                boolean isLookedAt = hours[i] == hour && meadow.isHere(cows[i]);
                if (isLookedAt && meadow.isDue(cows[i]) != dues[i]) {
                    return false;
                }
            }
            return true;
        }
    }

    /** The choices of a side, in their order: none, then by cow, then by cell. */
    private static final class Choices {
        private final int[] row = new int[MOST_CHOICES];
        private int many;

        void lookAt(Meadow meadow, int side) {
            many = 0;
            add(NO_MOVE);
            for (int cow = 0; cow < COWS; cow++) {
                if (meadow.isOfSide(cow, side)) {
                    addMovesOf(cow, meadow);
                }
            }
        }

        private void addMovesOf(int cow, Meadow meadow) {
            for (int cell = 0; cell < CELLS; cell++) {
                if (!meadow.isGrazed(cell)) {
                    add(10 * cow + cell + 1);
                }
            }
        }

        private void add(int choice) {
            if (many < MOST_CHOICES) {
                row[many] = choice;
                many++;
            }
        }

        int size() {
            return many;
        }

        int at(int i) {
            return i >= 0 && i < many && i < MOST_CHOICES ? row[i] : NO_MOVE;
        }
    }

    /** The text that tells a pass, letter by letter. */
    private static final class PassText {
        private static final int CLOVER_PART = 3, COW_PART = 5;
        private static final int ALL_CELLS = (1 << CELLS) - 1;
        /** The least and the most that the figures of a part may be, behind its first letter. */
        private static final int[] CLOVER_LEAST = {0, 1}, CLOVER_MOST = {9, 9};
        private static final int[] COW_LEAST = {0, 0, 0, 0}, COW_MOST = {9, 1, 9, 3};

        private final int[] letters = new int[LETTERS];
        private int length;

        int size() {
            return length;
        }

        void clear() {
            length = 0;
        }

        boolean add(int letter) {
            if (length >= LETTERS) {
                return false;
            }
            letters[length] = letter;
            length++;
            return true;
        }

        private int letter(int at) {
            return at >= 0 && at < length && at < LETTERS ? letters[at] : NONE;
        }

        /** The figure at a place, or NONE if none is there. */
        private int figure(int at) {
            int letter = letter(at);
            return letter >= '0' && letter <= '9' ? letter - '0' : NONE;
        }

        int faultPlace() {
            if (letter(0) != 'M') {
                return 0;
            }
            int grown = 0;
            int grazed = 0;
            int at = 1;
            for (int parts = 0; parts < LETTERS && at < length; parts++) {
                boolean ofClover = letter(at) == 'G';
                if (ofClover ? grown == ALL_CELLS : letter(at) != 'K' || Integer.bitCount(grazed) >= COWS) {
                    return at;
                }
                int fault = ofClover
                    ? faultOfPart(at, CLOVER_LEAST, CLOVER_MOST, grown)
                    : faultOfPart(at, COW_LEAST, COW_MOST, grazed);
                if (fault != NONE) {
                    return fault;
                }
                int cell = 1 << figure(at + 1);
                grown |= ofClover ? cell : 0;
                grazed |= ofClover ? 0 : cell;
                at += ofClover ? CLOVER_PART : COW_PART;
            }
            return NONE;
        }

        private int faultOfPart(int at, int[] least, int[] most, int taken) {
            for (int i = 0; i < least.length && i < most.length; i++) {
                int place = at + 1 + i;
                if (place >= length) {
                    return length;
                }
                int figure = figure(place);
                boolean isTaken = i == 0 && figure >= 0 && (taken >> figure & 1) == 1;
                if (figure < least[i] || figure > most[i] || isTaken) {
                    return place;
                }
            }
            return NONE;
        }

        /** Puts what a text without a fault tells on a meadow on which nothing is. */
        void tellTo(Meadow meadow) {
            int at = 1;
            for (int parts = 0; parts < LETTERS && at < length; parts++) {
                if (letter(at) == 'G') {
                    meadow.growOn(figure(at + 1), figure(at + 2));
                    at += CLOVER_PART;
                } else {
                    meadow.addCow(figure(at + 1), figure(at + 2), figure(at + 3), figure(at + 4));
                    at += COW_PART;
                }
            }
        }
    }
}
