/** Promises 8 and 9, sentence by sentence: CHANGES, what they KEEP, and BACKS at their edges. */
final class EdgesChangesTest {
    private static final int[] TAPED_KINDS = {0, 1, 2, 3, 5};
    private static final int NEW = -1;
    private static final Due DUE = new Due();

    public static void main(String[] args) {
        refusals();
        pairing();
        moving();
        marks();
        backs();
        DUE.end();
    }

    private static void refusals() {
        kinds();
        files();
        hands();
        secondHand();
        otherDoesNotMatter();
        notHere();
        mostChanges();
        mostChangesThenRestored();
        lowestStatus();
        tapeIsEmptyThen();
        tapeStaysWhenRefused();
        noLines();
        mostLines();
    }

    private static void pairing() {
        oneAtMost();
        sameOrder();
        oneText();
        oneWording();
        mostPairs();
        leastNumber();
        notPairedIsBehind();
        thenTheSecond();
        newText();
        ofItsFileAlone();
        eachChangeAnew();
    }

    private static void moving() {
        movedOfWholeText();
        movedFirstNew();
        movedFirstOld();
        movedKeptByNone();
        movedBehindPairs();
        onlyMovedOnes();
    }

    private static void marks() {
        keptOnesStay();
        firstMarks();
        pairedMarks();
    }

    private static void backs() {
        backAheadOfChange();
        backAsTheyWereThen();
        backOfItsFile();
        backOfBack();
        backOfFullFile();
        backLeavesTape();
        backOfNoChange();
        backByNobody();
        backByOneNotHere();
        backWithoutRoom();
        backBehindRestore();
    }

    /** FILE 0 with LINES of these TEXTS: LINE i is made by CHANGE i, so that its MAKER tells its old number. */
    private static KnowHouse rows(int... texts) {
        KnowHouse x = Made.with(3, 9);
        for (int size = 1; size <= texts.length; size++) {
            Made.change(x, 0, 0, 0, 0, java.util.Arrays.copyOf(texts, size));
        }
        return x;
    }

    private static int[] row(int... numbers) {
        return numbers;
    }

    /** A CHANGE of a KIND makes old TEXTS new ones; each new LINE is an old one (its number), or NEW. */
    private static void kept(int kind, int[] old, int[] texts, int[] from) {
        KnowHouse x = rows(old);
        int number = Made.change(x, kind, 0, 1, 2, texts);
        String change = "KIND " + kind + " of " + java.util.Arrays.toString(old) + " to "
                + java.util.Arrays.toString(texts);
        int many = 0;
        for (int j = 0; j < texts.length; j++) {
            DUE.is(change + ": MAKER of " + j, x.line(0, j, 1), from[j] == NEW ? number : from[j]);
            DUE.is(change + ": TEXT of " + j, x.line(0, j, 0), texts[j]);
            many += from[j] == NEW ? 0 : 1;
        }
        DUE.is(change + ": how many KEPT", x.changeTold(number, 5), many);
        DUE.is(change + ": how many made", x.changeTold(number, 7), texts.length - many);
    }

    private static void kinds() {
        DUE.sentence(8, "A CHANGE of KINDS 0 to 3, 5 of a FILE by a HAND");
        KnowHouse x = Made.with(2, 0);
        int[] none = {Integer.MIN_VALUE, -1, 4, 6, 7, 256, Integer.MAX_VALUE};
        for (int kind : none) {
            DUE.refused(x, "change(" + kind + ", 0, 0, 1)", x.change(kind, 0, 0, 1), 1);
        }
        for (int i = 0; i < TAPED_KINDS.length; i++) {
            DUE.done(x, "change(" + TAPED_KINDS[i] + ", 0, 0, 1)", x.change(TAPED_KINDS[i], 0, 0, 1), i);
            DUE.is("changeTold(" + i + ", 0)", x.changeTold(i, 0), TAPED_KINDS[i]);
        }
    }

    private static void files() {
        DUE.sentence(8, "FILES 0 .. 5 have LINES in a row");
        KnowHouse x = Made.with(2, 0);
        int[] none = {Integer.MIN_VALUE, -1, 6, Integer.MAX_VALUE};
        for (int file : none) {
            DUE.refused(x, "change(0, " + file + ", 0, 0)", x.change(0, file, 0, 0), 1);
        }
        for (int f = 0; f < 6; f++) {
            DUE.is("change of FILE " + f, Made.change(x, 0, f, 0, 0, 100 + f), f);
            DUE.is("line(" + f + ", 0, 0)", x.line(f, 0, 0), 100 + f);
            DUE.is("changeTold(" + f + ", 1)", x.changeTold(f, 1), f);
        }
    }

    private static void hands() {
        DUE.sentence(8, "STATUS 1 (also: a HAND that there is not)");
        KnowHouse x = Made.with(2, 0);
        int[] none = {Integer.MIN_VALUE, -1, 2, 8, Integer.MAX_VALUE};
        for (int hand : none) {
            for (int kind : TAPED_KINDS) {
                DUE.refused(x, "change(" + kind + ", 0, " + hand + ", 0)", x.change(kind, 0, hand, 0), 1);
            }
        }
        DUE.is("count(1)", x.count(1), 0);
        DUE.done(x, "change(0, 0, 1, 0)", x.change(0, 0, 1, 0), 0);
        DUE.is("changeTold(0, 2)", x.changeTold(0, 2), 1);
    }

    private static void secondHand() {
        DUE.sentence(8, "other: the second one of PAIRED ones, another PERSON (else STATUS 1)");
        KnowHouse x = Made.with(3, 0);
        int[] none = {Integer.MIN_VALUE, -1, 3, Integer.MAX_VALUE};
        for (int other : none) {
            DUE.refused(x, "change(3, 0, 1, " + other + ")", x.change(3, 0, 1, other), 1);
        }
        for (int p = 0; p < 3; p++) {
            DUE.refused(x, "change(3, 0, p, p)", x.change(3, 0, p, p), 1);
        }
        DUE.done(x, "change(3, 0, 1, 0)", x.change(3, 0, 1, 0), 0);
        DUE.done(x, "change(3, 0, 1, 2)", x.change(3, 0, 1, 2), 1);
        DUE.is("changeTold(1, 3)", x.changeTold(1, 3), 2);
    }

    private static void otherDoesNotMatter() {
        DUE.sentence(8, "of others it does not matter");
        int[] others = {Integer.MIN_VALUE, -1, 0, 1, 2, Integer.MAX_VALUE};
        int[] kinds = {0, 1, 2, 5};
        for (int kind : kinds) {
            KnowHouse x = Made.with(2, 0);
            x.here(1, false);
            for (int i = 0; i < others.length; i++) {
                x.text(100 + 10 * i);
                DUE.done(x, "change(" + kind + ", 0, 0, " + others[i] + ")", x.change(kind, 0, 0, others[i]), i);
                DUE.is("changeTold(" + i + ", 3)", x.changeTold(i, 3), -1);
                DUE.is("line(0, 0, 2)", x.line(0, 0, 2), 1);
            }
        }
    }

    private static void notHere() {
        DUE.sentence(8, "3 (a HAND is not HERE)");
        KnowHouse x = Made.with(4, 0);
        x.here(1, false);
        x.here(2, false);
        for (int kind : TAPED_KINDS) {
            DUE.refused(x, "change(" + kind + ", 0, 1, 0)", x.change(kind, 0, 1, 0), 3);
        }
        DUE.refused(x, "change(3, 0, 0, 1), the second one", x.change(3, 0, 0, 1), 3);
        DUE.refused(x, "change(3, 0, 1, 2), both", x.change(3, 0, 1, 2), 3);
        DUE.is("count(1)", x.count(1), 0);
        DUE.done(x, "change(3, 0, 0, 3), both are", x.change(3, 0, 0, 3), 0);
        x.here(1, true);
        DUE.done(x, "change(3, 0, 0, 1), HERE again", x.change(3, 0, 0, 1), 1);
    }

    /** Sixty CHANGES, BACKS among them. */
    private static KnowHouse full() {
        KnowHouse x = Made.with(3, 0);
        x.here(2, false);
        for (int k = 0; k < 60; k++) {
            int number = k % 10 == 9 ? x.back(k - 1, 0) : x.change(0, k % 6, 0, 0);
            DUE.is("the CHANGE with number " + k, number, k);
        }
        return x;
    }

    private static void mostChanges() {
        DUE.sentence(8, "CHANGES (60 at most, numbered from 0 as they come)");
        KnowHouse x = full();
        for (int kind : TAPED_KINDS) {
            DUE.refused(x, "the 61st, of KIND " + kind, x.change(kind, 0, 0, 1), 2);
        }
        DUE.is("count(1)", x.count(1), 60);
        DUE.is("changeTold(59, 0)", x.changeTold(59, 0), 4);
        DUE.is("changeTold(59, 3)", x.changeTold(59, 3), 58);
        DUE.is("changeTold(60, 0)", x.changeTold(60, 0), -1);
        DUE.done(x, "act(59, 0, 5)", x.act(59, 0, 5), 5);
        DUE.refused(x, "act(60, 0, 5)", x.act(60, 0, 5), 1);
    }

    private static void mostChangesThenRestored() {
        DUE.sentence(8, "CHANGES (60 at most, numbered from 0 as they come)");
        KnowHouse x = Made.with(1, 0);
        x.change(0, 0, 0, 0);
        x.image();
        for (int k = 1; k < 60; k++) {
            x.change(1, 0, 0, 0);
        }
        DUE.refused(x, "the 61st", x.change(1, 0, 0, 0), 2);
        x.restore();
        DUE.done(x, "the second one anew", x.change(2, 0, 0, 0), 1);
        DUE.is("changeTold(1, 0)", x.changeTold(1, 0), 2);
        DUE.is("changeTold(2, 0)", x.changeTold(2, 0), -1);
    }

    private static void lowestStatus() {
        DUE.sentence(8, "Where several hold, the lowest.");
        KnowHouse x = Made.with(3, 0);
        x.here(2, false);
        DUE.refused(x, "no such KIND, not HERE", x.change(4, 0, 2, 0), 1);
        DUE.refused(x, "no such FILE, not HERE", x.change(0, 6, 2, 0), 1);
        DUE.refused(x, "no other PERSON, not HERE", x.change(3, 0, 2, 2), 1);
        DUE.refused(x, "no second HAND, not HERE", x.change(3, 0, 2, 3), 1);
        KnowHouse y = full();
        DUE.refused(y, "no room, not HERE", y.change(0, 0, 2, 0), 2);
        DUE.refused(y, "no room, the second one not HERE", y.change(3, 0, 0, 2), 2);
        DUE.refused(y, "no such KIND, no room", y.change(6, 0, 0, 0), 1);
        DUE.refused(y, "no such FILE, no room, not HERE", y.change(0, -1, 2, 0), 1);
        DUE.refused(y, "no such HAND, no room", y.change(0, 0, 3, 0), 1);
        DUE.refused(y, "no other PERSON, no room", y.change(3, 0, 0, 0), 1);
        DUE.refused(y, "a BACK: no such CHANGE, no room, not HERE", y.back(60, 2), 1);
        DUE.refused(y, "a BACK: no such HAND, no room", y.back(59, 3), 1);
        DUE.refused(y, "a BACK: no room, not HERE", y.back(59, 2), 2);
    }

    private static void tapeIsEmptyThen() {
        DUE.sentence(8, "its number; THE TAPE is empty then");
        for (int kind : TAPED_KINDS) {
            KnowHouse x = Made.with(2, 0);
            Made.change(x, kind, 0, 0, 1, 100, 200);
            DUE.is("count(4)", x.count(4), 0);
            DUE.done(x, "wipe()", x.wipe(), 0);
            Made.change(x, kind, 1, 0, 1, 300);
            DUE.is("lines(1)", x.lines(1), 1);
            DUE.is("lines(0)", x.lines(0), 2);
        }
    }

    private static void tapeStaysWhenRefused() {
        DUE.sentence(8, "Such calls answer -1 and change nothing else.");
        KnowHouse x = full();
        x.text(100);
        x.text(200);
        DUE.refused(x, "change(0, 0, 0, 0)", x.change(0, 0, 0, 0), 2);
        DUE.refused(x, "change(4, 0, 0, 0)", x.change(4, 0, 0, 0), 1);
        DUE.is("count(4)", x.count(4), 2);
        KnowHouse y = Made.with(1, 0);
        y.text(100);
        y.here(0, false);
        DUE.refused(y, "change(0, 0, 0, 0)", y.change(0, 0, 0, 0), 3);
        DUE.is("count(4)", y.count(4), 1);
        DUE.is("lines(0)", y.lines(0), 0);
        y.here(0, true);
        DUE.done(y, "change(0, 0, 0, 0) then", y.change(0, 0, 0, 0), 0);
        DUE.is("line(0, 0, 0)", y.line(0, 0, 0), 100);
    }

    private static void noLines() {
        DUE.sentence(8, "makes the FILE's LINES those of the TEXTS on THE TAPE");
        for (int kind : TAPED_KINDS) {
            kept(kind, row(), row(), row());
            kept(kind, row(), row(100), row(NEW));
            KnowHouse x = rows(100, 200);
            DUE.done(x, "a CHANGE by an empty TAPE", x.change(kind, 0, 0, 1), 2);
            DUE.is("lines(0)", x.lines(0), 0);
            DUE.is("changeTold(2, 5)", x.changeTold(2, 5), 0);
            DUE.is("changeTold(2, 6)", x.changeTold(2, 6), 2);
            DUE.is("changeTold(0, 7)", x.changeTold(0, 7), 0);
        }
    }

    private static void mostLines() {
        DUE.sentence(8, "LINES in a row (20 at most; none at first)");
        int[] up = new int[20];
        int[] all = new int[20];
        int[] down = new int[20];
        int[] turned = new int[20];
        int[] lastNew = new int[20];
        for (int i = 0; i < 20; i++) {
            up[i] = 100 + 10 * i;
            all[i] = i;
            down[i] = 100 + 10 * (19 - i);
            turned[i] = 19 - i;
            lastNew[i] = i == 0 ? 19 : NEW;
        }
        for (int kind : TAPED_KINDS) {
            kept(kind, up, up, all);
            kept(kind, up, down, kind == 5 ? turned : lastNew);
        }
    }

    private static void oneAtMost() {
        DUE.sentence(8, "each with one at most");
        for (int kind : TAPED_KINDS) {
            kept(kind, row(100), row(100, 100), row(0, NEW));
            kept(kind, row(100, 100), row(100), row(0));
            kept(kind, row(100, 100), row(100, 100, 100), row(0, 1, NEW));
        }
    }

    private static void sameOrder() {
        DUE.sentence(8, "in the same order");
        int[] inOrder = {0, 1, 2, 3};
        for (int kind : inOrder) {
            kept(kind, row(100, 200), row(200, 100), row(1, NEW));
            kept(kind, row(100, 200, 300), row(200, 300, 100), row(1, 2, NEW));
        }
    }

    private static void oneText() {
        DUE.sentence(8, "ALIKE ones (of one TEXT;");
        int[] byText = {0, 2, 3};
        for (int kind : byText) {
            kept(kind, row(100), row(101), row(NEW));
            kept(kind, row(100), row(109), row(NEW));
            kept(kind, row(100, 101), row(101), row(1));
            kept(kind, row(10), row(10), row(0));
            kept(kind, row(9999), row(9999), row(0));
        }
    }

    private static void oneWording() {
        DUE.sentence(8, "by FORMED and MOVED ones also of one WORDING");
        int[] byWording = {1, 5};
        for (int kind : byWording) {
            kept(kind, row(100), row(109), row(0));
            kept(kind, row(109), row(100), row(0));
            kept(kind, row(109), row(110), row(NEW));
            kept(kind, row(110), row(109), row(NEW));
            kept(kind, row(10), row(19), row(0));
            kept(kind, row(19), row(20), row(NEW));
            kept(kind, row(9990), row(9999), row(0));
            kept(kind, row(9989), row(9990), row(NEW));
            kept(kind, row(100), row(1000), row(NEW));
            kept(kind, row(101, 100), row(100), row(0));
        }
    }

    private static void mostPairs() {
        DUE.sentence(8, "with the most pairs");
        for (int kind : TAPED_KINDS) {
            kept(kind, row(100, 200, 300), row(300, 100, 200), row(kind == 5 ? 2 : NEW, 0, 1));
            kept(kind, row(100, 200, 100, 300), row(100, 300, 200, 100), row(0, kind == 5 ? 3 : NEW, 1, 2));
        }
    }

    private static void leastNumber() {
        DUE.sentence(8, "the first new LINE has the old one with the least number");
        int[] inOrder = {0, 1, 2, 3};
        for (int kind : inOrder) {
            kept(kind, row(100, 100, 100), row(100), row(0));
            kept(kind, row(200, 100, 300, 100), row(100), row(1));
            kept(kind, row(100, 200, 100, 200), row(200, 100), row(1, 2));
            kept(kind, row(100, 200, 100), row(200, 100, 100), row(1, 2, NEW));
        }
    }

    private static void notPairedIsBehind() {
        DUE.sentence(8, "(not to be paired comes behind all)");
        int[] inOrder = {0, 1, 2, 3};
        for (int kind : inOrder) {
            kept(kind, row(100, 200, 300), row(300, 100), row(2, NEW));
            kept(kind, row(100), row(200, 100, 100), row(NEW, 0, NEW));
            kept(kind, row(100, 200), row(200, 100), row(1, NEW));
        }
    }

    private static void thenTheSecond() {
        DUE.sentence(8, "then the second new one, and so on");
        int[] inOrder = {0, 1, 2, 3};
        for (int kind : inOrder) {
            kept(kind, row(100, 200, 200, 300), row(100, 200, 300), row(0, 1, 3));
            kept(kind, row(100, 200, 300), row(100, 300, 200), row(0, 2, NEW));
            kept(kind, row(400, 100, 200, 300, 300), row(400, 300, 100, 200, 300), row(0, NEW, 1, 2, 3));
            kept(kind, row(100, 200, 300, 200, 300), row(100, 300, 200, 300), row(0, 2, 3, 4));
        }
    }

    private static void newText() {
        DUE.sentence(8, "KEPT ones have the new TEXT.");
        KnowHouse x = rows(100, 200);
        Made.change(x, 1, 0, 1, 0, 105, 209);
        DUE.is("line(0, 0, 0)", x.line(0, 0, 0), 105);
        DUE.is("line(0, 1, 0)", x.line(0, 1, 0), 209);
        Made.change(x, 0, 0, 1, 0, 100, 209);
        DUE.is("by TEXT alone, of the old TEXT", x.line(0, 0, 1), 3);
        DUE.is("by TEXT alone, of the new TEXT", x.line(0, 1, 1), 1);
        x.back(3, 1);
        DUE.is("ahead of it: line(0, 0, 0)", x.line(0, 0, 0), 105);
        x.back(2, 1);
        DUE.is("ahead of the FORMED one: line(0, 0, 0)", x.line(0, 0, 0), 100);
    }

    private static void ofItsFileAlone() {
        DUE.sentence(8, "makes the FILE's LINES those of the TEXTS on THE TAPE");
        KnowHouse x = Made.with(1, 0);
        Made.change(x, 0, 0, 0, 0, 100, 200);
        Made.change(x, 0, 1, 0, 0, 200);
        DUE.is("a LINE of another FILE is not KEPT", x.line(1, 0, 1), 1);
        DUE.is("changeTold(1, 5)", x.changeTold(1, 5), 0);
        DUE.is("lines(0)", x.lines(0), 2);
    }

    /** What was paired for one CHANGE leaves nothing for the next one. */
    private static void eachChangeAnew() {
        DUE.sentence(8, "KEPT are, of all ways to pair old LINES with new ones");
        KnowHouse x = Made.with(1, 0);
        Made.change(x, 0, 1, 0, 0, 100, 200);
        Made.change(x, 0, 1, 0, 0, 300, 400, 200);
        Made.change(x, 0, 0, 0, 0, 500, 600);
        Made.change(x, 0, 0, 0, 0, 600, 500);
        DUE.is("the first new LINE is KEPT", x.line(0, 0, 1), 2);
        DUE.is("the second one is not", x.line(0, 1, 1), 3);
    }

    private static void movedOfWholeText() {
        DUE.sentence(8, "the first old LINE of one whole TEXT that is KEPT by none");
        kept(5, row(100, 200), row(200, 100), row(1, 0));
        kept(5, row(100, 200), row(200, 101), row(1, NEW));
        kept(5, row(100, 105, 200), row(200, 105), row(2, 1));
        kept(5, row(100, 105, 200), row(200, 106), row(2, NEW));
        kept(5, row(100, 200, 300), row(300, 200, 100), row(2, 1, 0));
    }

    private static void movedFirstNew() {
        DUE.sentence(8, "the first new LINE, then the next one, each (if it is not KEPT yet)");
        kept(5, row(100, 200, 300), row(200, 300, 100, 100), row(1, 2, 0, NEW));
        kept(5, row(200, 300, 100), row(100, 100, 200, 300), row(2, NEW, 0, 1));
        kept(5, row(100, 200, 300, 100), row(200, 300, 100, 100), row(1, 2, 3, 0));
    }

    private static void movedFirstOld() {
        DUE.sentence(8, "with the first old LINE of one whole TEXT");
        kept(5, row(100, 100, 200, 300), row(200, 300, 100), row(2, 3, 0));
        kept(5, row(100, 100, 200, 300, 400), row(200, 300, 400, 100, 100), row(2, 3, 4, 0, 1));
    }

    private static void movedKeptByNone() {
        DUE.sentence(8, "that is KEPT by none: they are KEPT, too");
        kept(5, row(100, 200), row(101, 200, 100), row(0, 1, NEW));
        kept(5, row(100, 200, 100), row(105, 200, 300, 100), row(0, 1, NEW, 2));
        kept(5, row(300, 100, 200), row(100, 200, 300, 300), row(1, 2, 0, NEW));
        kept(5, row(300, 100, 200), row(100, 200, 300, 100), row(1, 2, 0, NEW));
    }

    private static void movedBehindPairs() {
        DUE.sentence(8, "By a MOVED one, of what is not KEPT");
        kept(5, row(100, 101), row(101), row(0));
        kept(5, row(200, 300, 100, 109), row(109, 200, 300, 100), row(3, 0, 1, 2));
        kept(5, row(109, 200, 300), row(200, 300, 100, 109), row(1, 2, NEW, 0));
    }

    private static void onlyMovedOnes() {
        DUE.sentence(8, "By a MOVED one");
        int[] inOrder = {0, 1, 2, 3};
        for (int kind : inOrder) {
            kept(kind, row(100, 200), row(200, 100), row(1, NEW));
        }
    }

    private static void keptOnesStay() {
        DUE.sentence(8, "is the same LINE, with its MAKER and MARKS");
        for (int kind : TAPED_KINDS) {
            keptStays(kind, 100);
        }
        keptStays(1, 105);
        keptStays(5, 105);
    }

    private static void keptStays(int kind, int text) {
        KnowHouse x = Made.with(3, 0);
        x.day(3);
        Made.change(x, 3, 0, 0, 1, 100, 200);
        x.day(4);
        x.read(2, 0, 0, 0);
        x.day(5);
        Made.change(x, kind, 0, 2, 1, text);
        DUE.is("line(0, 0, 0)", x.line(0, 0, 0), text);
        DUE.is("line(0, 0, 1)", x.line(0, 0, 1), 0);
        DUE.is("line(0, 0, 2)", x.line(0, 0, 2), 3);
        int[] marks = {0, 3, 5, 1, 3, 5, 2, 7, 3};
        for (int i = 0; i < marks.length; i++) {
            DUE.is("mark(0, 0, " + i / 3 + ", " + i % 3 + ")", x.mark(0, 0, i / 3, i % 3), marks[i]);
        }
    }

    private static void firstMarks() {
        DUE.sentence(8, "and MARKS of THE DAY: 8 POINTS of its HAND (of MADE ones 2;");
        int[] kinds = {0, 1, 2, 5};
        for (int kind : kinds) {
            KnowHouse x = Made.with(3, 0);
            x.day(6);
            Made.change(x, kind, 0, 2, 1, 100);
            DUE.is("KIND " + kind + ": MARKS", x.line(0, 0, 2), 1);
            DUE.is("KIND " + kind + ": PERSON", x.mark(0, 0, 0, 0), 2);
            DUE.is("KIND " + kind + ": DAY", x.mark(0, 0, 0, 1), 6);
            DUE.is("KIND " + kind + ": POINTS", x.mark(0, 0, 0, 2), kind == 2 ? 2 : 8);
            DUE.is("KIND " + kind + ": no second MARK", x.mark(0, 0, 1, 0), -1);
        }
    }

    private static void pairedMarks() {
        DUE.sentence(8, "of PAIRED ones 5 of its HAND, then 5 of the second one");
        KnowHouse x = Made.with(3, 0);
        x.day(6);
        Made.change(x, 3, 0, 2, 1, 100, 200);
        int[] marks = {2, 6, 5, 1, 6, 5};
        for (int line = 0; line < 2; line++) {
            DUE.is("MARKS", x.line(0, line, 2), 2);
            for (int i = 0; i < marks.length; i++) {
                DUE.is("mark(0, l, " + i / 3 + ", " + i % 3 + ")", x.mark(0, line, i / 3, i % 3), marks[i]);
            }
            DUE.is("no third MARK", x.mark(0, line, 2, 0), -1);
        }
    }

    private static void backAheadOfChange() {
        DUE.sentence(9, "its LINES become those that it had ahead of CHANGE k");
        for (int k = 0; k < 4; k++) {
            KnowHouse x = rows(100, 200, 300, 400);
            x.day(k);
            DUE.done(x, "back(" + k + ", 1)", x.back(k, 1), 4);
            DUE.is("lines(0)", x.lines(0), k);
            for (int i = 0; i < k; i++) {
                DUE.is("line(0, " + i + ", 0)", x.line(0, i, 0), 100 + 100 * i);
                DUE.is("line(0, " + i + ", 1)", x.line(0, i, 1), i);
            }
            int[] told = {4, 0, 1, k, k, k, 4, 0};
            for (int what = 0; what < told.length; what++) {
                DUE.is("changeTold(4, " + what + ")", x.changeTold(4, what), told[what]);
            }
        }
    }

    private static void backAsTheyWereThen() {
        DUE.sentence(9, "with TEXTS, MAKERS and MARKS that they had then");
        KnowHouse x = Made.with(2, 0);
        Made.change(x, 0, 0, 0, 0, 100, 200);
        x.day(20);
        x.read(1, 0, 0, 0);
        Made.change(x, 1, 0, 1, 0, 105, 200);
        x.day(5);
        x.read(1, 0, 0, 1);
        x.back(1, 1);
        DUE.is("TEXT", x.line(0, 0, 0), 100);
        DUE.is("MAKER", x.line(0, 0, 1), 0);
        DUE.is("MARKS, one read ahead of it", x.line(0, 0, 2), 2);
        DUE.is("MARKS, read behind it alone", x.line(0, 1, 2), 1);
        DUE.is("a MARK's DAY", x.mark(0, 0, 1, 1), 20);
        DUE.is("THE DAY stays", x.count(2), 25);
        DUE.is("POINTS fade on", x.points(0, 0, 0), 6);
        x.read(1, 0, 0, 0);
        x.back(1, 1);
        DUE.is("MARKS of then, also behind a READING of them", x.line(0, 0, 2), 2);
    }

    private static void backOfItsFile() {
        DUE.sentence(9, "A BACK of a CHANGE k of the FILE");
        KnowHouse x = Made.with(1, 0);
        Made.change(x, 0, 2, 0, 0, 100);
        Made.change(x, 0, 4, 0, 0, 200, 300);
        DUE.done(x, "back(0, 0)", x.back(0, 0), 2);
        DUE.is("lines(2)", x.lines(2), 0);
        DUE.is("lines(4)", x.lines(4), 2);
        DUE.is("changeTold(2, 1)", x.changeTold(2, 1), 2);
    }

    private static void backOfBack() {
        DUE.sentence(9, "A BACK of a CHANGE, by a HAND: its number");
        KnowHouse x = rows(100, 200);
        x.back(0, 0);
        DUE.done(x, "back of the BACK", x.back(2, 0), 3);
        DUE.is("lines(0)", x.lines(0), 2);
        DUE.is("line(0, 1, 1)", x.line(0, 1, 1), 1);
        DUE.is("changeTold(3, 3)", x.changeTold(3, 3), 2);
        DUE.is("changeTold(3, 5)", x.changeTold(3, 5), 2);
        DUE.is("changeTold(3, 6)", x.changeTold(3, 6), 0);
        DUE.done(x, "back of the BACK's BACK", x.back(3, 0), 4);
        DUE.is("lines(0) then", x.lines(0), 0);
    }

    private static void backOfFullFile() {
        DUE.sentence(9, "LINES in a row (20 at most; none at first)");
        KnowHouse x = Made.with(2, 0);
        Made.lines(x, 0, 0, 20);
        x.read(1, 0, 19, 19);
        x.change(0, 0, 0, 0);
        x.back(1, 0);
        DUE.is("lines(0)", x.lines(0), 20);
        DUE.is("line(0, 19, 2)", x.line(0, 19, 2), 2);
        DUE.is("changeTold(0, 7)", x.changeTold(0, 7), 20);
        DUE.is("changeTold(2, 5)", x.changeTold(2, 5), 20);
    }

    private static void backLeavesTape() {
        DUE.sentence(9, "(THE TAPE stays)");
        KnowHouse x = rows(100);
        x.text(300);
        x.text(400);
        x.back(0, 0);
        DUE.is("count(4)", x.count(4), 2);
        x.change(0, 1, 0, 0);
        DUE.is("line(1, 1, 0)", x.line(1, 1, 0), 400);
    }

    private static void backOfNoChange() {
        DUE.sentence(9, "`int back(int change, int hand)`");
        KnowHouse x = rows(100, 200);
        int[] none = {Integer.MIN_VALUE, -60, -1, 2, 59, 60, Integer.MAX_VALUE};
        for (int change : none) {
            DUE.refused(x, "back(" + change + ", 0)", x.back(change, 0), 1);
        }
        DUE.is("lines(0)", x.lines(0), 2);
        DUE.is("count(1)", x.count(1), 2);
        DUE.done(x, "back(1, 0)", x.back(1, 0), 2);
    }

    private static void backByNobody() {
        DUE.sentence(9, "by a HAND: its number (THE TAPE stays). STATUS 1");
        KnowHouse x = rows(100, 200);
        int[] nobody = {Integer.MIN_VALUE, -1, 3, 8, Integer.MAX_VALUE};
        for (int hand : nobody) {
            DUE.refused(x, "back(0, " + hand + ")", x.back(0, hand), 1);
        }
        DUE.is("lines(0)", x.lines(0), 2);
        DUE.done(x, "back(0, 2)", x.back(0, 2), 2);
        DUE.is("changeTold(2, 2)", x.changeTold(2, 2), 2);
    }

    private static void backByOneNotHere() {
        DUE.sentence(9, "3 (the HAND is not HERE)");
        KnowHouse x = rows(100, 200);
        x.here(0, false);
        DUE.refused(x, "back(0, 0)", x.back(0, 0), 3);
        DUE.refused(x, "back(2, 0), no such CHANGE", x.back(2, 0), 1);
        DUE.is("lines(0)", x.lines(0), 2);
        DUE.done(x, "back(0, 1): the CHANGE's HAND need not be HERE", x.back(0, 1), 2);
        x.here(0, true);
        DUE.done(x, "back(1, 0), HERE again", x.back(1, 0), 3);
    }

    private static void backWithoutRoom() {
        DUE.sentence(9, "STATUS 1, 2, 3 (the HAND is not HERE)");
        KnowHouse x = full();
        DUE.refused(x, "back(0, 0), the 61st", x.back(0, 0), 2);
        DUE.refused(x, "back(59, 0), the 61st", x.back(59, 0), 2);
        DUE.is("count(1)", x.count(1), 60);
    }

    /** What an IMAGE brings back is what later BACKS go to, too. */
    private static void backBehindRestore() {
        DUE.sentence(9, "its LINES become those that it had ahead of CHANGE k");
        KnowHouse x = rows(100);
        x.image();
        Made.change(x, 0, 0, 0, 0, 500, 600);
        x.restore();
        DUE.refused(x, "back(1, 0)", x.back(1, 0), 1);
        x.read(1, 0, 0, 0);
        Made.change(x, 0, 0, 0, 0, 700);
        x.back(1, 0);
        DUE.is("line(0, 0, 0)", x.line(0, 0, 0), 100);
        DUE.is("line(0, 0, 2)", x.line(0, 0, 2), 2);
    }
}
