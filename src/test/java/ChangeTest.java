/** Promises 6 to 9 and 13, 14, 16: THE TAPE, CHANGES, BACKS, LINES and what is told of them. */
final class ChangeTest {
    private static final Due DUE = new Due();

    public static void main(String[] args) {
        text();
        wipe();
        changeRefused();
        changeFull();
        changeTold();
        firstMarks();
        lines();
        back();
        backOfBack();
        backRefused();
        DUE.end();
    }

    private static void text() {
        KnowHouse x = new KnowHouse();
        DUE.refused(x, "6: text(9)", x.text(9), 1);
        DUE.refused(x, "6: text(10000)", x.text(10000), 1);
        for (int i = 1; i <= 20; i++) {
            DUE.done(x, "6: text", x.text(i == 1 ? 10 : 9999), i);
        }
        DUE.refused(x, "6: text(10) too many", x.text(10), 2);
        DUE.refused(x, "6: text(9) too many", x.text(9), 1);
        DUE.is("6: count(4)", x.count(4), 20);
    }

    private static void wipe() {
        KnowHouse x = new KnowHouse();
        DUE.done(x, "7: wipe() of none", x.wipe(), 0);
        x.text(10);
        x.text(11);
        DUE.done(x, "7: wipe()", x.wipe(), 2);
        DUE.is("7: count(4)", x.count(4), 0);
        DUE.is("7: text(12)", x.text(12), 1);
    }

    private static void changeRefused() {
        KnowHouse x = Made.with(2, 1);
        x.text(10);
        DUE.refused(x, "8: change(-1, 0, 0, 0)", x.change(-1, 0, 0, 0), 1);
        DUE.refused(x, "8: change(4, 0, 0, 0)", x.change(4, 0, 0, 0), 1);
        DUE.refused(x, "8: change(6, 0, 0, 0)", x.change(6, 0, 0, 0), 1);
        DUE.refused(x, "8: change(0, -1, 0, 0)", x.change(0, -1, 0, 0), 1);
        DUE.refused(x, "8: change(0, 6, 0, 0)", x.change(0, 6, 0, 0), 1);
        DUE.refused(x, "8: change(0, 0, -1, 0)", x.change(0, 0, -1, 0), 1);
        DUE.refused(x, "8: change(0, 0, 2, 0)", x.change(0, 0, 2, 0), 1);
        DUE.refused(x, "8: change(3, 0, 0, 0)", x.change(3, 0, 0, 0), 1);
        DUE.refused(x, "8: change(3, 0, 0, 2)", x.change(3, 0, 0, 2), 1);
        DUE.refused(x, "8: change(3, 0, 0, -1)", x.change(3, 0, 0, -1), 1);
        x.here(1, false);
        DUE.refused(x, "8: change(0, 0, 1, 0)", x.change(0, 0, 1, 0), 3);
        DUE.refused(x, "8: change(3, 0, 0, 1)", x.change(3, 0, 0, 1), 3);
        DUE.refused(x, "8: change(3, 0, 1, 0)", x.change(3, 0, 1, 0), 3);
        DUE.refused(x, "8: change(3, 0, 1, 1)", x.change(3, 0, 1, 1), 1);
        DUE.is("8: count(4)", x.count(4), 1);
        DUE.is("8: count(1)", x.count(1), 0);
        DUE.is("8: lines(0)", x.lines(0), 0);
        DUE.done(x, "8: change(0, 5, 0, 1)", x.change(0, 5, 0, 1), 0);
        DUE.done(x, "8: change(5, 5, 0, -7)", x.change(5, 5, 0, -7), 1);
        DUE.is("8: THE TAPE", x.count(4), 0);
    }

    private static void changeFull() {
        KnowHouse x = Made.with(2, 1);
        x.here(1, false);
        for (int k = 0; k < 60; k++) {
            DUE.done(x, "8: change", k % 3 == 2 ? x.back(k - 1, 0) : x.change(k % 3, k % 6, 0, 0), k);
        }
        x.text(10);
        DUE.refused(x, "8: change, the 61st", x.change(0, 0, 0, 0), 2);
        DUE.refused(x, "8: change, the 61st, not HERE", x.change(0, 0, 1, 0), 2);
        DUE.refused(x, "8: change, the 61st, no such", x.change(0, 6, 0, 0), 1);
        DUE.refused(x, "9: back, the 61st", x.back(3, 0), 2);
        DUE.refused(x, "9: back, the 61st, not HERE", x.back(3, 1), 2);
        DUE.refused(x, "9: back, the 61st, no such", x.back(60, 0), 1);
        DUE.is("8: count(1)", x.count(1), 60);
        DUE.is("8: THE TAPE stays", x.count(4), 1);
        DUE.is("16: changeTold(59, 0)", x.changeTold(59, 0), 4);
        DUE.is("16: changeTold(60, 0)", x.changeTold(60, 0), -1);
    }

    private static void told(KnowHouse x, int change, int... wanted) {
        for (int what = 0; what < wanted.length; what++) {
            DUE.is("16: changeTold(" + change + ", " + what + ")", x.changeTold(change, what), wanted[what]);
        }
        DUE.is("16: changeTold(.., 8)", x.changeTold(change, wanted.length), -1);
        DUE.is("16: changeTold(.., -1)", x.changeTold(change, -1), -1);
    }

    private static void changeTold() {
        KnowHouse x = Made.with(3, 1);
        x.day(7);
        Made.change(x, 0, 2, 1, 0, 100, 110, 120);
        x.day(5);
        Made.change(x, 3, 2, 2, 0, 110, 130, 140, 120);
        Made.change(x, 2, 3, 0, 1, 150);
        x.day(1);
        x.back(1, 0);
        told(x, 0, 0, 2, 1, -1, 7, 0, 0, 3);
        told(x, 1, 3, 2, 2, 0, 12, 2, 3, 0);
        told(x, 2, 2, 3, 0, -1, 12, 0, 0, 1);
        told(x, 3, 4, 2, 0, 1, 13, 3, 4, 0);
        DUE.is("16: changeTold(-1, 0)", x.changeTold(-1, 0), -1);
        DUE.is("16: changeTold(4, 0)", x.changeTold(4, 0), -1);
    }

    private static void firstMarks() {
        KnowHouse x = Made.with(3, 1);
        x.day(4);
        int[] kinds = {0, 1, 2, 5};
        for (int f = 0; f < kinds.length; f++) {
            Made.change(x, kinds[f], f, 2, 1, 100);
            DUE.is("8: MARKS of KIND " + kinds[f], x.line(f, 0, 2), 1);
            DUE.is("8: PERSON of KIND " + kinds[f], x.mark(f, 0, 0, 0), 2);
            DUE.is("8: DAY of KIND " + kinds[f], x.mark(f, 0, 0, 1), 4);
            DUE.is("8: POINTS of KIND " + kinds[f], x.mark(f, 0, 0, 2), kinds[f] == 2 ? 2 : 8);
        }
        Made.change(x, 3, 4, 2, 0, 100);
        DUE.is("8: MARKS of PAIRED", x.line(4, 0, 2), 2);
        int[] wanted = {2, 4, 5, 0, 4, 5};
        for (int i = 0; i < wanted.length; i++) {
            DUE.is("8: mark of PAIRED " + i, x.mark(4, 0, i / 3, i % 3), wanted[i]);
        }
    }

    private static void lines() {
        KnowHouse x = Made.with(1, 1);
        Made.change(x, 0, 5, 0, 0, 100, 9999);
        DUE.is("13: lines(5)", x.lines(5), 2);
        DUE.is("13: lines(0)", x.lines(0), 0);
        DUE.is("13: lines(6)", x.lines(6), -1);
        DUE.is("13: lines(-1)", x.lines(-1), -1);
        DUE.is("14: line(5, 1, 0)", x.line(5, 1, 0), 9999);
        DUE.is("14: line(5, 1, 1)", x.line(5, 1, 1), 0);
        DUE.is("14: line(5, 1, 2)", x.line(5, 1, 2), 1);
        DUE.is("14: line(5, 1, 3)", x.line(5, 1, 3), -1);
        DUE.is("14: line(5, 1, -1)", x.line(5, 1, -1), -1);
        DUE.is("14: line(5, 2, 0)", x.line(5, 2, 0), -1);
        DUE.is("14: line(5, -1, 0)", x.line(5, -1, 0), -1);
        DUE.is("14: line(6, 0, 0)", x.line(6, 0, 0), -1);
        DUE.is("14: line(-1, 0, 0)", x.line(-1, 0, 0), -1);
        DUE.done(x, "8: a change by an empty TAPE", x.change(0, 5, 0, 0), 1);
        DUE.is("13: lines(5) then", x.lines(5), 0);
        DUE.is("16: changeTold(1, 6)", x.changeTold(1, 6), 2);
    }

    private static void back() {
        KnowHouse x = Made.with(2, 1);
        Made.change(x, 0, 1, 0, 0, 100, 200, 300);
        x.read(1, 1, 1, 1);
        Made.change(x, 1, 1, 1, 0, 209, 300, 400);
        x.read(1, 1, 0, 2);
        x.text(500);
        DUE.done(x, "9: back(1, 1)", x.back(1, 1), 2);
        DUE.is("9: THE TAPE stays", x.count(4), 1);
        DUE.is("9: lines(1)", x.lines(1), 3);
        int[] texts = {100, 200, 300};
        int[] marks = {1, 2, 1};
        for (int i = 0; i < 3; i++) {
            DUE.is("9: TEXT", x.line(1, i, 0), texts[i]);
            DUE.is("9: MAKER", x.line(1, i, 1), 0);
            DUE.is("9: MARKS", x.line(1, i, 2), marks[i]);
        }
        DUE.done(x, "9: back(0, 1)", x.back(0, 1), 3);
        DUE.is("9: lines(1) ahead of the first", x.lines(1), 0);
        DUE.is("16: changeTold(3, 5)", x.changeTold(3, 5), 0);
        DUE.is("16: changeTold(3, 6)", x.changeTold(3, 6), 3);
    }

    private static void backOfBack() {
        KnowHouse x = Made.with(1, 1);
        Made.change(x, 0, 0, 0, 0, 100);
        Made.change(x, 0, 0, 0, 0, 100, 200);
        x.back(0, 0);
        DUE.done(x, "9: back(2, 0)", x.back(2, 0), 3);
        DUE.is("9: lines(0)", x.lines(0), 2);
        DUE.is("9: line(0, 1, 1)", x.line(0, 1, 1), 1);
        x.read(0, 0, 0, 1);
        DUE.is("9: the BACK's LINES are read alone", x.line(0, 0, 2), 2);
        x.back(2, 0);
        DUE.is("9: MARKS as they were then", x.line(0, 0, 2), 1);
        DUE.is("16: changeTold(4, 6)", x.changeTold(4, 6), 2);
        DUE.is("16: changeTold(4, 3)", x.changeTold(4, 3), 2);
    }

    private static void backRefused() {
        KnowHouse x = Made.with(2, 1);
        DUE.refused(x, "9: back(0, 0) of none", x.back(0, 0), 1);
        Made.change(x, 0, 0, 0, 0, 100);
        x.here(1, false);
        DUE.refused(x, "9: back(-1, 0)", x.back(-1, 0), 1);
        DUE.refused(x, "9: back(1, 0)", x.back(1, 0), 1);
        DUE.refused(x, "9: back(0, 2)", x.back(0, 2), 1);
        DUE.refused(x, "9: back(0, -1)", x.back(0, -1), 1);
        DUE.refused(x, "9: back(0, 1)", x.back(0, 1), 3);
        DUE.is("9: lines(0)", x.lines(0), 1);
        DUE.is("9: count(1)", x.count(1), 1);
    }
}
