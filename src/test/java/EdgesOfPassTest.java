/** The edges that the document names for the text, its fault, the pass and what an hour does: a test for each. */
public final class EdgesOfPassTest {
    private static final Due T = new Due("EdgesOfPassTest");
    private static final int NONE = MilkTruce.NONE, STATE = MilkTruce.STATE;
    private static final String TEN_CLOVERS = "G01G12G23G34G45G56G67G78G89G91";

    public static void main(String[] args) {
        noCowsAndNoCloverAtFirst();
        textOfSixtyFourLetters();
        emptyText();
        cellsOfTheText();
        cloverOfTheText();
        cellsWithCloverOnce();
        sidesOfTheText();
        fullnessOfTheText();
        kindsOfTheText();
        cellsWithACowOnce();
        sixCowsAtMost();
        cowsAreNumberedAsTold();
        textThatIsNotAtItsEnd();
        lettersBesideThePass();
        passOfAFault();
        passOfNothingButM();
        textStaysByPass();
        newPassBehindAKeep();
        newPassBehindActs();
        whatStaysByPass();
        dueAtSix();
        taughtDueAtNine();
        dryNeverDue();
        whiteWarnsAtFive();
        T.end();
    }

    private static void faultIs(String letters, int want) {
        MilkTruce x = Due.text(letters);
        T.due("fault of '" + letters + "'", x.fault(), want);
        T.due("fault of '" + letters + "' again", x.fault(), want);
        if (want != NONE) {
            T.due("pass of '" + letters + "'", x.pass(), STATE);
        }
    }

    /** Of figures at one place, beside them the sign ahead of 0 and the one behind 9, only some can be. */
    private static void figuresAre(String before, char least, char most, String behind) {
        for (char sign : "/0123456789:".toCharArray()) {
            boolean can = sign >= least && sign <= most;
            faultIs(before + sign + behind, can ? NONE : before.length());
        }
    }

    /** "No cows, no clover", "At first there is nothing", THE SEED "0 at first", of WAS DUE "none at first". */
    private static void noCowsAndNoCloverAtFirst() {
        MilkTruce x = new MilkTruce();
        for (int what = 0; what <= 9; what++) {
            T.due("at first: count(" + what + ")", x.count(what), 0);
            T.due("at first: clover(" + what + ")", x.clover(what), 0);
        }
        T.due("at first: cow(0, 0)", x.cow(0, 0), MilkTruce.UNKNOWN);
        T.due("at first: wipe()", x.wipe(), 0);
        T.due("at first: untell()", x.untell(), 0);
        T.due("at first: undo()", x.undo(), STATE);
        T.due("at first: again(0)", x.again(0), STATE);
        T.due("at first: again(1)", x.again(1), STATE);
        T.due("at first: seed(0)", x.seed(0), 0);
        T.due("at first: pass()", x.pass(), STATE);
        T.due("at first: sorts(8)", x.sorts(8), 0);
        T.due("at first: on(8)", x.on(8), 8);
    }

    /** "64 at most": the 64th comes, one more does not. */
    private static void textOfSixtyFourLetters() {
        MilkTruce x = Due.text("M" + TEN_CLOVERS + Scene.SIX_COWS.substring(1));
        T.due("61 letters", x.count(0), 61);
        T.due("the fullest pass", x.fault(), NONE);
        T.due("the 62nd", x.write('G'), 62);
        T.due("the 63rd", x.write('0'), 63);
        T.due("the 64th", x.write('1'), 64);
        T.due("the 65th", x.write('1'), MilkTruce.FULL);
        T.due("the 65th once more", x.write('M'), MilkTruce.FULL);
        T.due("64 it stays", x.count(0), 64);
        T.due("fault of a full text", x.fault(), 61);
        T.due("pass of a full text", x.pass(), STATE);
        T.due("wipe of a full text", x.wipe(), 64);
        T.due("write behind it", x.write('M'), 1);
    }

    /** "THE TEXT is empty: how long it was"; its fault is at its length, 0. */
    private static void emptyText() {
        faultIs("", 0);
        MilkTruce x = Due.text("M");
        T.due("wipe of one letter", x.wipe(), 1);
        T.due("wipe of an empty text", x.wipe(), 0);
        T.due("count(0) of it", x.count(0), 0);
        T.due("fault of it", x.fault(), 0);
        T.due("pass of it", x.pass(), STATE);
    }

    /** "CELLS are 0 to 9." */
    private static void cellsOfTheText() {
        figuresAre("MG", '0', '9', "5");
        figuresAre("MK", '0', '9', "050");
        MilkTruce x = Due.pass("MG01G92K0050K9160");
        T.due("clover of cell 0", x.clover(0), 1);
        T.due("clover of cell 9", x.clover(9), 2);
        T.due("the cow on cell 0", x.cow(0, 0), 0);
        T.due("the cow on cell 9", x.cow(1, 0), 9);
    }

    /** "CLOVER g (1 to 9)" */
    private static void cloverOfTheText() {
        figuresAre("MG0", '1', '9', "");
        figuresAre("MK0050G9", '1', '9', "K9050");
        Scene.answers(T, "MG31", "clover(3)", 1, x -> x.clover(3));
        Scene.answers(T, "MG39", "clover(3)", 9, x -> x.clover(3));
    }

    /** "on CELL c (each once)" */
    private static void cellsWithCloverOnce() {
        faultIs("MG01G0", 5);
        faultIs("MG01G01", 5);
        faultIs("MG91G11G92", 8);
        faultIs("MG91G81", NONE);
        faultIs("MG91K9000G8", 11);
        faultIs("M" + TEN_CLOVERS, NONE);
        faultIs("M" + TEN_CLOVERS + "G", 31);
        // A cow may be where clover is.
        faultIs("MG91K9000", NONE);
        faultIs("MK9000G91", NONE);
    }

    /** "of SIDE s (0, 1)" */
    private static void sidesOfTheText() {
        figuresAre("MK0", '0', '1', "50");
        Scene.answers(T, "MK0050", "cow(0, 1)", 0, x -> x.cow(0, 1));
        Scene.answers(T, "MK0150", "cow(0, 1)", 1, x -> x.cow(0, 1));
    }

    /** "u full (0 to 9)" */
    private static void fullnessOfTheText() {
        figuresAre("MK00", '0', '9', "0");
        Scene.answers(T, "MK0000", "cow(0, 2)", 0, x -> x.cow(0, 2));
        Scene.answers(T, "MK0090", "cow(0, 2)", 9, x -> x.cow(0, 2));
    }

    /** "of KIND k: 0 PLAIN, 1 TAUGHT, 2 DRY, 3 WHITE" */
    private static void kindsOfTheText() {
        figuresAre("MK005", '0', '3', "");
        Scene.answers(T, "MK0050", "cow(0, 3)", 0, x -> x.cow(0, 3));
        Scene.answers(T, "MK0053", "cow(0, 3)", 3, x -> x.cow(0, 3));
    }

    /** "a COW on CELL c (none has two)" */
    private static void cellsWithACowOnce() {
        faultIs("MK0000K0", 7);
        faultIs("MK0000K0113", 7);
        faultIs("MK9000K8000K9", 12);
        faultIs("MK9000K8000K8", 12);
        faultIs("MK9000K8000K7", 13);
    }

    /** "COWS (6 at most)" */
    private static void sixCowsAtMost() {
        faultIs(Scene.SIX_COWS.substring(0, 26), NONE);
        faultIs(Scene.SIX_COWS, NONE);
        faultIs(Scene.SIX_COWS + "K", 31);
        faultIs(Scene.SIX_COWS + "K6000", 31);
        faultIs(Scene.SIX_COWS + "G01K", 34);
        faultIs(Scene.SIX_COWS + "G01", NONE);
        Scene.answers(T, Scene.SIX_COWS, "pass()", 6, x -> x.pass());
        Scene.answers(T, Scene.SIX_COWS, "count(1)", 6, x -> x.count(1));
    }

    /** "COWS are numbered as they are told" */
    private static void cowsAreNumberedAsTold() {
        MilkTruce x = Due.pass("MK9000G11K5100K7053G22K1001K8002K0190");
        int[] cells = {9, 5, 7, 1, 8, 0};
        for (int cow = 0; cow < cells.length; cow++) {
            T.due("cell of the cow told " + cow, x.cow(cow, 0), cells[cow]);
        }
        T.due("no seventh cow", x.cow(6, 0), MilkTruce.UNKNOWN);
    }

    /** "its length, if it is only not at its end; NONE: none" */
    private static void textThatIsNotAtItsEnd() {
        String letters = "MG29K9193G45K2002";
        for (int length = 0; length <= letters.length(); length++) {
            boolean atItsEnd = length == 1 || length == 4 || length == 9 || length == 12 || length == 17;
            faultIs(letters.substring(0, length), atItsEnd ? NONE : length);
        }
    }

    /** "the place of the first letter by which THE TEXT can be no PASS, whatever came behind it" */
    private static void lettersBesideThePass() {
        for (int letter = 0; letter <= 255; letter++) {
            boolean opensPart = letter == 'G' || letter == 'K';
            faultIs("" + (char) letter, letter == 'M' ? NONE : 0);
            faultIs("M" + (char) letter, opensPart ? 2 : 1);
            faultIs("MG45" + (char) letter, opensPart ? 5 : 4);
        }
        faultIs("XX", 0);
        faultIs("MXX", 1);
        faultIs("MGXX", 2);
        faultIs("MK0XX", 3);
        faultIs("MG01G02G0X", 5);
    }

    /** "STATE: a FAULT": all is as it was. */
    private static void passOfAFault() {
        for (String letters : new String[] {"", "X", "MG", "MG00", "MG01G02", "MK0004", Scene.SIX_COWS + "K"}) {
            MilkTruce x = Due.pass("MG09K0070K9160");
            x.hour(false);
            x.keep(1);
            x.sow(5);
            Due.write(x, letters);
            String seen = Due.look(x);
            T.due("pass of '" + letters + "'", x.pass(), STATE);
            T.due("nothing changes by '" + letters + "'", Due.look(x).equals(seen) ? 1 : 0, 1);
            T.due("what was kept stays by '" + letters + "'", x.again(1), 1);
        }
    }

    /** "M, then PARTS, none or more": no cow and no clover. */
    private static void passOfNothingButM() {
        MilkTruce x = Due.pass("MG09K0060");
        Due.write(x, "M");
        T.due("pass of M", x.pass(), 0);
        T.due("cows of M", x.count(1), 0);
        T.due("clover of M", x.clover(0), 0);
        T.due("a cow of M", x.cow(0, 0), MilkTruce.UNKNOWN);
        T.due("hour of M", x.hour(false), 0);
        T.due("pails of M", x.count(4), 0);
        T.due("a cow may be moved by none there", x.move(0, 0), MilkTruce.UNKNOWN);
    }

    /** "THE TEXT (that stays as it is) is THE PASS" */
    private static void textStaysByPass() {
        MilkTruce x = Due.pass("MG01");
        T.due("letters behind pass", x.count(0), 4);
        T.due("the next letter", x.write('G'), 5);
        T.due("fault of all of them", x.fault(), 5);
        T.due("the pass stands without it", x.clover(0), 1);
        T.due("wipe of all of them", x.wipe(), 5);
        T.due("the pass stands by wipe", x.clover(0), 1);
    }

    /** "what was kept is gone" */
    private static void newPassBehindAKeep() {
        MilkTruce x = Due.pass("MG03K0000");
        x.hour(false);
        T.due("keep(0)", x.keep(0), 1);
        T.due("keep(1)", x.keep(1), 1);
        T.due("a new pass", x.pass(), 1);
        T.due("again(0) behind it", x.again(0), STATE);
        T.due("again(1) behind it", x.again(1), STATE);
        T.due("the refused again changed nothing", x.count(2), 0);
        x.sow(1);
        T.due("keep(1) behind it", x.keep(1), 0);
        T.due("again(0), kept before the pass alone", x.again(0), STATE);
        T.due("again(1), kept behind the pass", x.again(1), 0);
        T.due("clover kept behind the pass", x.clover(1), 1);
    }

    /** "THE ROW of ACTS is empty", "THE HOUR is 0, there is no SNOW, no PAILS, no HOURS of WAR" */
    private static void newPassBehindActs() {
        MilkTruce x = Due.pass("MK0060K1170");
        for (int i = 0; i < 20; i++) {
            x.hour(false);
        }
        x.snow();
        int[] before = {11, 2, 20, 1, 6, 7, 19, 3, 14, 0};
        int[] behind = {11, 2, 0, 0, 0, 0, 0, 1, 0, 0};
        for (int what = 0; what <= 9; what++) {
            T.due("count(" + what + ") ahead of a new pass", x.count(what), before[what]);
        }
        T.due("a new pass", x.pass(), 2);
        for (int what = 0; what <= 9; what++) {
            T.due("count(" + what + ") behind a new pass", x.count(what), behind[what]);
        }
        T.due("undo behind a new pass", x.undo(), STATE);
    }

    /** "what WAS DUE, THE SEED stay" */
    private static void whatStaysByPass() {
        MilkTruce x = Due.pass("MK0000");
        for (int i = 0; i < 6; i++) {
            x.tell(0, i, true);
        }
        x.seed(Long.MIN_VALUE);
        x.pass();
        T.due("what was due stays", x.count(9), 6);
        T.due("one more is refused yet", x.tell(0, 0, true), MilkTruce.FULL);
        T.due("it is looked at yet", x.full(0), 0);
        T.due("the seed stays", x.seed(0), Long.MIN_VALUE);
    }

    /** Of a cow of each fullness whether it is due, and of what sort the hour is in which it stands there. */
    private static void dueAndSorts(char kind, String dues, String sorts) {
        for (int full = 0; full <= 9; full++) {
            String letters = "MK00" + full + kind;
            Scene.answers(T, letters, "cow(0, 4)", dues.charAt(full) - '0', x -> x.cow(0, 4));
            Scene.answers(T, letters, "count(7)", sorts.charAt(full) - '0', x -> x.count(7));
            Scene.answers(T, letters, "hour(false)", sorts.charAt(full) - '0', x -> x.hour(false));
        }
    }

    /** "A COW is DUE, if it is 6 full or more" */
    private static void dueAtSix() {
        dueAndSorts('0', "0000001111", "0000001111");
    }

    /** "(TAUGHT: 9 ..)" */
    private static void taughtDueAtNine() {
        dueAndSorts('1', "0000000001", "0000000001");
    }

    /** "(.. DRY: never)" */
    private static void dryNeverDue() {
        dueAndSorts('2', "0000000000", "0000000000");
    }

    /** "A WHITE one WARNS, if it is 5 full." */
    private static void whiteWarnsAtFive() {
        dueAndSorts('3', "0000001111", "0000021111");
    }
}
