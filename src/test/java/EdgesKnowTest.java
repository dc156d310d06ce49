/** Promises 10 and 13 to 19, sentence by sentence: READINGS, what is told of LINES, and what people know, at the edges. */
final class EdgesKnowTest {
    private static final int[] FAR = {Integer.MIN_VALUE, Integer.MIN_VALUE + 1, -1000, 1000, Integer.MAX_VALUE};
    private static final Due DUE = new Due();

    public static void main(String[] args) {
        readings();
        told();
        knowing();
        DUE.end();
    }

    private static void readings() {
        fromTo();
        fromAboveTo();
        readByNobody();
        readOfNoFile();
        readByOneNotHere();
        pointsOfReading();
        eightMarks();
        eightMarksOfPaired();
        marksOfOneReading();
    }

    private static void told() {
        linesOfNoFile();
        lineOfNone();
        lineByWhat();
        markOfNone();
        markByWhat();
        changeOfNone();
        changeByWhat();
        secondHandOfOthers();
        keptLines();
        linesAhead();
        makerNow();
    }

    private static void knowing() {
        daysBy10();
        neverBelow0();
        longAgo();
        together();
        pointsOfNone();
        fivePoints();
        knowsOfNone();
        shareExactly();
        shareOfHundred();
        fileWithoutLines();
        ableOfNone();
        ableThoughNotHere();
    }

    private static void fromTo() {
        DUE.sentence(10, "A PERSON reads LINES from .. to of a FILE: how many.");
        KnowHouse x = Made.with(2, 0);
        Made.lines(x, 3, 0, 20);
        DUE.done(x, "read(1, 3, 0, 19)", x.read(1, 3, 0, 19), 20);
        DUE.done(x, "read(1, 3, 0, 0)", x.read(1, 3, 0, 0), 1);
        DUE.done(x, "read(1, 3, 19, 19)", x.read(1, 3, 19, 19), 1);
        DUE.done(x, "read(1, 3, 1, 2)", x.read(1, 3, 1, 2), 2);
        DUE.refused(x, "read(1, 3, 0, 20)", x.read(1, 3, 0, 20), 1);
        DUE.refused(x, "read(1, 3, 20, 20)", x.read(1, 3, 20, 20), 1);
        DUE.refused(x, "read(1, 3, -1, 0)", x.read(1, 3, -1, 0), 1);
        DUE.refused(x, "read(1, 3, -1, -1)", x.read(1, 3, -1, -1), 1);
        for (int far : FAR) {
            DUE.refused(x, "read(1, 3, " + far + ", 5)", x.read(1, 3, far, 5), 1);
            DUE.refused(x, "read(1, 3, 5, " + far + ")", x.read(1, 3, 5, far), 1);
        }
        for (int i = 0; i < 20; i++) {
            DUE.is("MARKS of " + i, x.line(3, i, 2), i == 3 || i > 3 && i < 19 ? 2 : 3);
        }
    }

    private static void fromAboveTo() {
        DUE.sentence(10, "STATUS 1 (also: from above to)");
        KnowHouse x = Made.with(2, 0);
        Made.lines(x, 0, 0, 4);
        DUE.refused(x, "read(1, 0, 1, 0)", x.read(1, 0, 1, 0), 1);
        DUE.refused(x, "read(1, 0, 3, 0)", x.read(1, 0, 3, 0), 1);
        DUE.refused(x, "read(1, 0, 3, 2)", x.read(1, 0, 3, 2), 1);
        x.here(1, false);
        DUE.refused(x, "read(1, 0, 1, 0), not HERE", x.read(1, 0, 1, 0), 1);
        for (int i = 0; i < 4; i++) {
            DUE.is("MARKS of " + i, x.line(0, i, 2), 1);
        }
    }

    private static void readByNobody() {
        DUE.sentence(10, "`int read(int person, int file, int from, int to)`");
        KnowHouse x = Made.with(2, 0);
        Made.lines(x, 0, 0, 1);
        DUE.refused(x, "read(-1, 0, 0, 0)", x.read(-1, 0, 0, 0), 1);
        DUE.refused(x, "read(2, 0, 0, 0)", x.read(2, 0, 0, 0), 1);
        for (int far : FAR) {
            DUE.refused(x, "read(" + far + ", 0, 0, 0)", x.read(far, 0, 0, 0), 1);
        }
        DUE.done(x, "read(1, 0, 0, 0)", x.read(1, 0, 0, 0), 1);
        DUE.is("MARKS", x.line(0, 0, 2), 2);
    }

    private static void readOfNoFile() {
        DUE.sentence(10, "FILES 0 .. 5 have LINES in a row (20 at most; none at first)");
        KnowHouse x = Made.with(1, 0);
        Made.lines(x, 0, 0, 1);
        Made.lines(x, 5, 0, 1);
        DUE.refused(x, "read(0, -1, 0, 0)", x.read(0, -1, 0, 0), 1);
        DUE.refused(x, "read(0, 6, 0, 0)", x.read(0, 6, 0, 0), 1);
        for (int far : FAR) {
            DUE.refused(x, "read(0, " + far + ", 0, 0)", x.read(0, far, 0, 0), 1);
        }
        DUE.refused(x, "read(0, 1, 0, 0) of no LINES", x.read(0, 1, 0, 0), 1);
        DUE.refused(x, "read(0, 1, 0, -1) of no LINES", x.read(0, 1, 0, -1), 1);
        DUE.done(x, "read(0, 0, 0, 0)", x.read(0, 0, 0, 0), 1);
        DUE.done(x, "read(0, 5, 0, 0)", x.read(0, 5, 0, 0), 1);
        x.change(0, 5, 0, 0);
        DUE.refused(x, "read(0, 5, 0, 0) of no LINES any more", x.read(0, 5, 0, 0), 1);
    }

    private static void readByOneNotHere() {
        DUE.sentence(10, "3 (it is not HERE)");
        KnowHouse x = Made.with(2, 0);
        Made.lines(x, 0, 0, 2);
        x.here(1, false);
        DUE.refused(x, "read(1, 0, 0, 1)", x.read(1, 0, 0, 1), 3);
        DUE.refused(x, "read(1, 6, 0, 1)", x.read(1, 6, 0, 1), 1);
        DUE.refused(x, "read(1, 0, 0, 2)", x.read(1, 0, 0, 2), 1);
        DUE.is("MARKS", x.line(0, 0, 2), 1);
        x.here(1, true);
        DUE.done(x, "read(1, 0, 0, 1), HERE again", x.read(1, 0, 0, 1), 2);
    }

    private static void pointsOfReading() {
        DUE.sentence(10, "gives each of them a MARK of 3 POINTS");
        KnowHouse x = Made.with(2, 0);
        Made.lines(x, 0, 0, 3);
        x.day(12);
        x.read(1, 0, 0, 1);
        for (int i = 0; i < 2; i++) {
            DUE.is("MARKS", x.line(0, i, 2), 2);
            DUE.is("PERSON", x.mark(0, i, 1, 0), 1);
            DUE.is("DAY", x.mark(0, i, 1, 1), 12);
            DUE.is("POINTS", x.mark(0, i, 1, 2), 3);
        }
        DUE.is("MARKS of the one that was not read", x.line(0, 2, 2), 1);
    }

    private static void eightMarks() {
        DUE.sentence(10, "A LINE has 8 MARKS at most: beyond that the first one goes.");
        KnowHouse x = Made.with(3, 0);
        Made.lines(x, 0, 0, 1);
        for (int k = 1; k < 8; k++) {
            x.day(1);
            x.read(1, 0, 0, 0);
            DUE.is("MARKS", x.line(0, 0, 2), k + 1);
            DUE.is("POINTS of the first one", x.mark(0, 0, 0, 2), 8);
        }
        DUE.is("mark(0, 0, 7, 1)", x.mark(0, 0, 7, 1), 7);
        DUE.is("mark(0, 0, 8, 1)", x.mark(0, 0, 8, 1), -1);
        for (int more = 0; more < 10; more++) {
            x.day(1);
            DUE.done(x, "a READING beyond that", x.read(2, 0, 0, 0), 1);
            DUE.is("MARKS beyond that", x.line(0, 0, 2), 8);
            DUE.is("DAY of the first one", x.mark(0, 0, 0, 1), 1 + more);
            DUE.is("DAY of the last one", x.mark(0, 0, 7, 1), 8 + more);
            DUE.is("PERSON of the last one", x.mark(0, 0, 7, 0), 2);
            DUE.is("points(0, 0, 0)", x.points(0, 0, 0), 0);
        }
    }

    private static void eightMarksOfPaired() {
        DUE.sentence(10, "beyond that the first one goes");
        KnowHouse x = Made.with(3, 0);
        Made.change(x, 3, 0, 0, 1, 100);
        for (int k = 2; k < 8; k++) {
            x.read(2, 0, 0, 0);
        }
        DUE.is("MARKS", x.line(0, 0, 2), 8);
        DUE.is("points(0, 0, 0)", x.points(0, 0, 0), 5);
        x.read(2, 0, 0, 0);
        DUE.is("points(0, 0, 0) beyond that", x.points(0, 0, 0), 0);
        DUE.is("points(1, 0, 0) beyond that", x.points(1, 0, 0), 5);
        x.read(2, 0, 0, 0);
        DUE.is("points(1, 0, 0) at last", x.points(1, 0, 0), 0);
        DUE.is("points(2, 0, 0) at last", x.points(2, 0, 0), 24);
    }

    /** LINES of one CHANGE and of one READING have MARKS of their own. */
    private static void marksOfOneReading() {
        DUE.sentence(10, "A READING of LINES of a FILE by a PERSON gives each of them a MARK");
        KnowHouse x = Made.with(2, 0);
        Made.lines(x, 0, 0, 3);
        x.read(1, 0, 0, 2);
        x.read(1, 0, 1, 1);
        DUE.is("line(0, 0, 2)", x.line(0, 0, 2), 2);
        DUE.is("line(0, 1, 2)", x.line(0, 1, 2), 3);
        DUE.is("line(0, 2, 2)", x.line(0, 2, 2), 2);
    }

    private static void linesOfNoFile() {
        DUE.sentence(13, "How many LINES a FILE has. -1: no such.");
        KnowHouse x = Made.with(1, 0);
        Made.lines(x, 0, 0, 20);
        Made.lines(x, 5, 0, 1);
        DUE.is("lines(0)", x.lines(0), 20);
        DUE.is("lines(1)", x.lines(1), 0);
        DUE.is("lines(5)", x.lines(5), 1);
        DUE.is("lines(-1)", x.lines(-1), -1);
        DUE.is("lines(6)", x.lines(6), -1);
        for (int far : FAR) {
            DUE.is("lines(" + far + ")", x.lines(far), -1);
        }
    }

    private static void lineOfNone() {
        DUE.sentence(14, "Of a LINE of a FILE: 0 TEXT, 1 MAKER, 2 how many MARKS. -1: no such.");
        KnowHouse x = Made.with(1, 0);
        Made.lines(x, 0, 0, 20);
        Made.lines(x, 5, 0, 2);
        for (int what = 0; what < 3; what++) {
            DUE.is("line(0, 20, w)", x.line(0, 20, what), -1);
            DUE.is("line(0, -1, w)", x.line(0, -1, what), -1);
            DUE.is("line(5, 2, w)", x.line(5, 2, what), -1);
            DUE.is("line(1, 0, w)", x.line(1, 0, what), -1);
            DUE.is("line(6, 0, w)", x.line(6, 0, what), -1);
            DUE.is("line(-1, 0, w)", x.line(-1, 0, what), -1);
            for (int far : FAR) {
                DUE.is("line(" + far + ", 0, w)", x.line(far, 0, what), -1);
                DUE.is("line(0, " + far + ", w)", x.line(0, far, what), -1);
            }
        }
        DUE.is("line(0, 19, 0)", x.line(0, 19, 0), 1190);
    }

    private static void lineByWhat() {
        DUE.sentence(14, "`int line(int file, int i, int what)`");
        KnowHouse x = Made.with(1, 0);
        x.change(0, 3, 0, 0);
        Made.change(x, 0, 5, 0, 0, 777);
        DUE.is("line(5, 0, 0)", x.line(5, 0, 0), 777);
        DUE.is("line(5, 0, 1)", x.line(5, 0, 1), 1);
        x.read(0, 5, 0, 0);
        DUE.is("line(5, 0, 2)", x.line(5, 0, 2), 2);
        DUE.is("line(5, 0, -1)", x.line(5, 0, -1), -1);
        DUE.is("line(5, 0, 3)", x.line(5, 0, 3), -1);
        for (int far : FAR) {
            DUE.is("line(5, 0, " + far + ")", x.line(5, 0, far), -1);
        }
    }

    private static void markOfNone() {
        DUE.sentence(15, "Of MARK k of a LINE (0: the first)");
        KnowHouse x = Made.with(3, 0);
        x.day(4);
        Made.change(x, 3, 5, 1, 2, 100, 200);
        for (int what = 0; what < 3; what++) {
            DUE.is("mark(5, 1, 0, w)", x.mark(5, 1, 0, what), new int[] {1, 4, 5}[what]);
            DUE.is("mark(5, 1, 1, w)", x.mark(5, 1, 1, what), new int[] {2, 4, 5}[what]);
            DUE.is("mark(5, 1, 2, w)", x.mark(5, 1, 2, what), -1);
            DUE.is("mark(5, 1, -1, w)", x.mark(5, 1, -1, what), -1);
            DUE.is("mark(5, 2, 0, w)", x.mark(5, 2, 0, what), -1);
            DUE.is("mark(5, -1, 0, w)", x.mark(5, -1, 0, what), -1);
            DUE.is("mark(4, 0, 0, w)", x.mark(4, 0, 0, what), -1);
            DUE.is("mark(6, 0, 0, w)", x.mark(6, 0, 0, what), -1);
            DUE.is("mark(-1, 0, 0, w)", x.mark(-1, 0, 0, what), -1);
            for (int far : FAR) {
                DUE.is("mark(5, 0, " + far + ", w)", x.mark(5, 0, far, what), -1);
                DUE.is("mark(5, " + far + ", 0, w)", x.mark(5, far, 0, what), -1);
                DUE.is("mark(" + far + ", 0, 0, w)", x.mark(far, 0, 0, what), -1);
            }
        }
    }

    private static void markByWhat() {
        DUE.sentence(15, "0 the PERSON, 1 the DAY, 2 POINTS. -1: no such.");
        KnowHouse x = Made.with(2, 0);
        x.day(4);
        Made.change(x, 0, 5, 1, 0, 100);
        x.day(500);
        DUE.is("mark(5, 0, 0, 0)", x.mark(5, 0, 0, 0), 1);
        DUE.is("mark(5, 0, 0, 1)", x.mark(5, 0, 0, 1), 4);
        DUE.is("mark(5, 0, 0, 2), what it was given", x.mark(5, 0, 0, 2), 8);
        DUE.is("mark(5, 0, 0, -1)", x.mark(5, 0, 0, -1), -1);
        DUE.is("mark(5, 0, 0, 3)", x.mark(5, 0, 0, 3), -1);
        for (int far : FAR) {
            DUE.is("mark(5, 0, 0, " + far + ")", x.mark(5, 0, 0, far), -1);
        }
        x.read(1, 5, 0, 0);
        DUE.is("mark(5, 0, 0, 3), with a second MARK", x.mark(5, 0, 0, 3), -1);
        DUE.is("mark(5, 0, 1, -1), with a first MARK", x.mark(5, 0, 1, -1), -1);
    }

    private static void changeOfNone() {
        DUE.sentence(16, "-1 also: no such.");
        KnowHouse x = Made.with(1, 0);
        Made.change(x, 0, 0, 0, 0, 100);
        for (int what = 0; what < 8; what++) {
            DUE.is("changeTold(-1, w)", x.changeTold(-1, what), -1);
            DUE.is("changeTold(1, w)", x.changeTold(1, what), -1);
            DUE.is("changeTold(60, w)", x.changeTold(60, what), -1);
            for (int far : FAR) {
                DUE.is("changeTold(" + far + ", w)", x.changeTold(far, what), -1);
            }
        }
    }

    private static void changeByWhat() {
        DUE.sentence(16, "Of a CHANGE: 0 KIND, 1 FILE, 2 HAND, 3 the second HAND");
        KnowHouse x = Made.with(3, 0);
        x.day(3);
        Made.change(x, 3, 5, 2, 1, 100, 200);
        x.day(1);
        int[] told = {3, 5, 2, 1, 3, 0, 0, 2};
        for (int what = 0; what < told.length; what++) {
            DUE.is("changeTold(0, " + what + ")", x.changeTold(0, what), told[what]);
        }
        DUE.is("changeTold(0, -1)", x.changeTold(0, -1), -1);
        DUE.is("changeTold(0, 8)", x.changeTold(0, 8), -1);
        for (int far : FAR) {
            DUE.is("changeTold(0, " + far + ")", x.changeTold(0, far), -1);
        }
    }

    private static void secondHandOfOthers() {
        DUE.sentence(16, "(of others NONE; of a BACK the CHANGE)");
        KnowHouse x = Made.with(2, 0);
        int[] kinds = {0, 1, 2, 5};
        for (int k = 0; k < kinds.length; k++) {
            x.change(kinds[k], 0, 0, 1);
            DUE.is("changeTold(" + k + ", 3)", x.changeTold(k, 3), KnowHouse.NONE);
        }
        x.back(3, 0);
        x.back(0, 0);
        DUE.is("changeTold(4, 3)", x.changeTold(4, 3), 3);
        DUE.is("changeTold(5, 3)", x.changeTold(5, 3), 0);
    }

    private static void keptLines() {
        DUE.sentence(16, "5 how many LINES of the FILE it KEPT (of a BACK: how many LINES there are then)");
        KnowHouse x = Made.with(1, 0);
        Made.change(x, 0, 0, 0, 0, 100, 200, 300);
        Made.change(x, 0, 0, 0, 0, 100, 400, 300, 500);
        Made.change(x, 5, 0, 0, 0, 500, 400, 300, 109);
        x.back(2, 0);
        x.back(0, 0);
        int[] kept = {0, 2, 4, 4, 0};
        for (int k = 0; k < kept.length; k++) {
            DUE.is("changeTold(" + k + ", 5)", x.changeTold(k, 5), k == 2 ? 3 : kept[k]);
        }
        x.change(0, 0, 0, 0);
        DUE.is("changeTold(1, 5), later", x.changeTold(1, 5), 2);
        DUE.is("changeTold(3, 5), later", x.changeTold(3, 5), 4);
    }

    private static void linesAhead() {
        DUE.sentence(16, "6 how many LINES its FILE had ahead of it");
        KnowHouse x = Made.with(1, 0);
        Made.lines(x, 0, 0, 20);
        Made.lines(x, 1, 0, 1);
        x.change(0, 0, 0, 0);
        x.back(2, 0);
        x.back(2, 0);
        int[] ahead = {0, 0, 20, 0, 20};
        for (int k = 0; k < ahead.length; k++) {
            DUE.is("changeTold(" + k + ", 6)", x.changeTold(k, 6), ahead[k]);
        }
    }

    private static void makerNow() {
        DUE.sentence(16, "7 how many LINES of all FILES have it as their MAKER now");
        KnowHouse x = Made.with(1, 0);
        Made.lines(x, 0, 0, 20);
        DUE.is("changeTold(0, 7)", x.changeTold(0, 7), 20);
        Made.lines(x, 0, 0, 7);
        DUE.is("changeTold(0, 7), fewer", x.changeTold(0, 7), 7);
        DUE.is("changeTold(1, 7)", x.changeTold(1, 7), 0);
        Made.lines(x, 0, 0, 9);
        DUE.is("changeTold(2, 7)", x.changeTold(2, 7), 2);
        x.back(1, 0);
        DUE.is("changeTold(0, 7), back", x.changeTold(0, 7), 20);
        DUE.is("changeTold(2, 7), back", x.changeTold(2, 7), 0);
        DUE.is("changeTold(3, 7), a BACK makes none", x.changeTold(3, 7), 0);
        x.change(0, 0, 0, 0);
        DUE.is("changeTold(0, 7), none left", x.changeTold(0, 7), 0);
    }

    private static void daysBy10() {
        DUE.sentence(17, "POINTS less the days since its DAY by 10 (cut)");
        KnowHouse x = Made.with(1, 0);
        x.day(5);
        Made.lines(x, 0, 0, 1);
        int[] onTo = {5, 14, 15, 24, 25, 74, 75, 84, 85, 94};
        int[] points = {8, 8, 7, 7, 6, 2, 1, 1, 0, 0};
        int day = 5;
        for (int i = 0; i < onTo.length; i++) {
            x.day(onTo[i] - day);
            day = onTo[i];
            DUE.is("points(0, 0, 0) on DAY " + day, x.points(0, 0, 0), points[i]);
        }
    }

    private static void neverBelow0() {
        DUE.sentence(17, "never below 0");
        KnowHouse x = Made.with(2, 0);
        Made.change(x, 2, 0, 1, 0, 100);
        x.day(19);
        DUE.is("behind 19 days", x.points(1, 0, 0), 1);
        x.day(1);
        DUE.is("behind 20 days", x.points(1, 0, 0), 0);
        x.day(10);
        DUE.is("behind 30 days", x.points(1, 0, 0), 0);
        x.day(70);
        x.read(1, 0, 0, 0);
        DUE.is("an old MARK takes nothing from a new one", x.points(1, 0, 0), 3);
        DUE.is("the other one", x.points(0, 0, 0), 0);
    }

    private static void longAgo() {
        DUE.sentence(17, "never below 0");
        KnowHouse x = Made.with(1, 0);
        Made.lines(x, 0, 0, 1);
        Made.day(x, 100000);
        DUE.is("points(0, 0, 0) on the last DAY", x.points(0, 0, 0), 0);
        x.read(0, 0, 0, 0);
        DUE.is("points(0, 0, 0), read then", x.points(0, 0, 0), 3);
        DUE.is("mark(0, 0, 1, 1)", x.mark(0, 0, 1, 1), 100000);
    }

    private static void together() {
        DUE.sentence(17, "what its MARKS are WORTH together");
        KnowHouse x = Made.with(3, 0);
        Made.change(x, 3, 0, 0, 2, 100);
        x.read(0, 0, 0, 0);
        x.day(10);
        x.read(0, 0, 0, 0);
        x.read(1, 0, 0, 0);
        DUE.is("points(0, 0, 0): 4 + 2 + 3", x.points(0, 0, 0), 9);
        DUE.is("points(1, 0, 0)", x.points(1, 0, 0), 3);
        DUE.is("points(2, 0, 0)", x.points(2, 0, 0), 4);
    }

    private static void pointsOfNone() {
        DUE.sentence(17, "POINTS of a PERSON for a LINE on THE DAY. -1: no such.");
        KnowHouse x = Made.with(2, 0);
        Made.lines(x, 0, 0, 2);
        DUE.is("points(1, 0, 1)", x.points(1, 0, 1), 0);
        DUE.is("points(-1, 0, 0)", x.points(-1, 0, 0), -1);
        DUE.is("points(2, 0, 0)", x.points(2, 0, 0), -1);
        DUE.is("points(0, -1, 0)", x.points(0, -1, 0), -1);
        DUE.is("points(0, 6, 0)", x.points(0, 6, 0), -1);
        DUE.is("points(0, 1, 0) of no LINES", x.points(0, 1, 0), -1);
        DUE.is("points(0, 0, -1)", x.points(0, 0, -1), -1);
        DUE.is("points(0, 0, 2)", x.points(0, 0, 2), -1);
        for (int far : FAR) {
            DUE.is("points(" + far + ", 0, 0)", x.points(far, 0, 0), -1);
            DUE.is("points(0, " + far + ", 0)", x.points(0, far, 0), -1);
            DUE.is("points(0, 0, " + far + ")", x.points(0, 0, far), -1);
        }
    }

    private static void fivePoints() {
        DUE.sentence(18, "A PERSON KNOWS a LINE with 5 POINTS or more.");
        KnowHouse x = Made.with(3, 0);
        Made.change(x, 3, 0, 0, 1, 100, 200);
        DUE.is("5 POINTS", x.knows(0, 0), 2);
        DUE.is("0 POINTS", x.knows(2, 0), 0);
        x.day(9);
        DUE.is("5 POINTS still", x.knows(0, 0), 2);
        x.day(1);
        DUE.is("4 POINTS", x.knows(0, 0), 0);
        x.read(0, 0, 1, 1);
        DUE.is("7 POINTS for one of them", x.knows(0, 0), 1);
        x.read(2, 0, 0, 0);
        DUE.is("3 POINTS", x.knows(2, 0), 0);
        x.read(2, 0, 0, 0);
        DUE.is("6 POINTS", x.knows(2, 0), 1);
    }

    private static void knowsOfNone() {
        DUE.sentence(18, "How many LINES of a FILE a PERSON KNOWS. -1: no such.");
        KnowHouse x = Made.with(2, 0);
        Made.lines(x, 5, 1, 20);
        DUE.is("knows(1, 5)", x.knows(1, 5), 20);
        DUE.is("knows(1, 4) of no LINES", x.knows(1, 4), 0);
        DUE.is("knows(-1, 5)", x.knows(-1, 5), -1);
        DUE.is("knows(2, 5)", x.knows(2, 5), -1);
        DUE.is("knows(1, -1)", x.knows(1, -1), -1);
        DUE.is("knows(1, 6)", x.knows(1, 6), -1);
        for (int far : FAR) {
            DUE.is("knows(" + far + ", 5)", x.knows(far, 5), -1);
            DUE.is("knows(1, " + far + ")", x.knows(1, far), -1);
        }
    }

    /** FILE 0 has LINES of which PERSON 1 KNOWS so many. */
    private static KnowHouse knowing(int known, int lines) {
        KnowHouse x = Made.with(2, 0);
        for (int i = 0; i < known; i++) {
            x.text(1000 + 10 * i);
        }
        x.change(0, 0, 1, 0);
        Made.lines(x, 0, 0, lines);
        DUE.is("knows(1, 0)", x.knows(1, 0), known);
        return x;
    }

    private static void shareExactly() {
        DUE.sentence(19, "at least SHARE hundredths (50 at first) of its LINES");
        int[] sizes = {1, 2, 3, 7, 19, 20};
        for (int size : sizes) {
            for (int known = 0; known <= size; known += Math.max(1, size / 3)) {
                KnowHouse x = knowing(known, size);
                DUE.is(known + " of " + size + " by 50", x.able(1, 0), known * 2 >= size ? 1 : 0);
                int most = known * 100 / size;
                if (most > 0) {
                    x.share(most);
                    DUE.is(known + " of " + size + " by " + most, x.able(1, 0), 1);
                }
                if (most < 100) {
                    x.share(most + 1);
                    DUE.is(known + " of " + size + " by " + (most + 1), x.able(1, 0), 0);
                }
            }
        }
    }

    private static void shareOfHundred() {
        DUE.sentence(19, "SHARE becomes n (1 .. 100)");
        KnowHouse all = knowing(20, 20);
        all.share(100);
        DUE.is("20 of 20 by 100", all.able(1, 0), 1);
        KnowHouse most = knowing(19, 20);
        most.share(100);
        DUE.is("19 of 20 by 100", most.able(1, 0), 0);
        KnowHouse one = knowing(1, 20);
        one.share(1);
        DUE.is("1 of 20 by 1", one.able(1, 0), 1);
        KnowHouse none = knowing(0, 20);
        none.share(1);
        DUE.is("0 of 20 by 1", none.able(1, 0), 0);
        KnowHouse noneOfOne = knowing(0, 1);
        noneOfOne.share(1);
        DUE.is("0 of 1 by 1", noneOfOne.able(1, 0), 0);
    }

    private static void fileWithoutLines() {
        DUE.sentence(19, "(of a FILE without LINES all are)");
        KnowHouse x = Made.with(2, 0);
        x.share(100);
        for (int f = 0; f < 6; f++) {
            DUE.is("able(1, " + f + ")", x.able(1, f), 1);
        }
        Made.lines(x, 0, 0, 1);
        DUE.is("able(1, 0) with a LINE", x.able(1, 0), 0);
        x.change(0, 0, 0, 0);
        DUE.is("able(1, 0) without LINES again", x.able(1, 0), 1);
        DUE.is("lost(0)", x.lost(0), 0);
    }

    private static void ableOfNone() {
        DUE.sentence(19, "Whether a PERSON is ABLE for a FILE: 1, 0. -1: no such.");
        KnowHouse x = Made.with(2, 0);
        Made.lines(x, 5, 1, 1);
        DUE.is("able(1, 5)", x.able(1, 5), 1);
        DUE.is("able(0, 5)", x.able(0, 5), 0);
        DUE.is("able(-1, 5)", x.able(-1, 5), -1);
        DUE.is("able(2, 5)", x.able(2, 5), -1);
        DUE.is("able(2, 0) of no LINES", x.able(2, 0), -1);
        DUE.is("able(1, -1)", x.able(1, -1), -1);
        DUE.is("able(1, 6)", x.able(1, 6), -1);
        for (int far : FAR) {
            DUE.is("able(" + far + ", 5)", x.able(far, 5), -1);
            DUE.is("able(1, " + far + ")", x.able(1, far), -1);
        }
    }

    private static void ableThoughNotHere() {
        DUE.sentence(19, "It is ABLE for a FILE if it KNOWS at least SHARE hundredths");
        KnowHouse x = Made.with(1, 0);
        Made.lines(x, 0, 0, 2);
        x.here(0, false);
        DUE.is("points(0, 0, 0)", x.points(0, 0, 0), 8);
        DUE.is("knows(0, 0)", x.knows(0, 0), 2);
        DUE.is("able(0, 0)", x.able(0, 0), 1);
        DUE.is("able(0, 1) of no LINES", x.able(0, 1), 1);
        DUE.is("lost(0)", x.lost(0), 63);
    }
}
