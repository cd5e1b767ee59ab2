/** What the tests have in common: answers held against those that are due. */
final class Due {
    private final String test;
    private int right;
    private int wrong;

    Due(String test) {
        this.test = test;
    }

    void due(String call, long got, long want) {
        if (got == want) {
            right++;
            return;
        }
        wrong++;
        System.out.println(test + ": " + call + " answered " + got + ", due is " + want);
    }

    void end() {
        System.out.println(test + ": " + right + " answers as due, " + wrong + " not");
        if (wrong != 0 || right == 0) {
            System.exit(1);
        }
    }

    /** A new object whose text is told, but no pass yet. */
    static MilkTruce text(String letters) {
        MilkTruce x = new MilkTruce();
        write(x, letters);
        return x;
    }

    static void write(MilkTruce x, String letters) {
        x.wipe();
        for (int i = 0; i < letters.length(); i++) {
            x.write(letters.charAt(i));
        }
    }

    /** A new object on whose pass the text stands. */
    static MilkTruce pass(String letters) {
        MilkTruce x = text(letters);
        if (x.pass() < 0) {
            throw new IllegalStateException("no pass: " + letters);
        }
        return x;
    }

    /** All that can be looked at of what an object holds, but the seed. */
    static String look(MilkTruce x) {
        return x.count(8) + " acts " + lookButActs(x);
    }

    /** The same, but how many acts are in the row. */
    static String lookButActs(MilkTruce x) {
        StringBuilder seen = new StringBuilder();
        for (int what = 0; what <= 9; what++) {
            if (what != 8) {
                seen.append(x.count(what)).append(' ');
            }
        }
        for (int cell = 0; cell <= 9; cell++) {
            seen.append(x.clover(cell)).append(' ');
        }
        for (int cow = 0; cow < x.count(1); cow++) {
            for (int what = 0; what <= 4; what++) {
                seen.append(x.cow(cow, what)).append(' ');
            }
            seen.append(x.full(cow)).append(' ');
        }
        return seen.append(x.fault()).toString();
    }
}
