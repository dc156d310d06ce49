/** Promises 11 and 12: image and restore. */
final class ImageTest {
    private static final Due DUE = new Due();

    public static void main(String[] args) {
        all();
        stays();
        inPlace();
        notKept();
        tenTimes();
        DUE.end();
    }

    private static void all() {
        KnowHouse x = Made.with(2, 7);
        x.here(1, false);
        x.day(4);
        x.share(60);
        Made.change(x, 0, 0, 0, 0, 100, 200);
        x.read(0, 0, 1, 1);
        x.text(300);
        x.text(310);
        DUE.done(x, "11: image()", x.image(), 1);
        x.person(9);
        x.here(1, true);
        x.here(0, false);
        x.day(40);
        x.share(10);
        x.read(1, 0, 0, 1);
        x.change(1, 0, 1, 0);
        Made.change(x, 0, 2, 1, 0, 400);
        x.text(999);
        DUE.done(x, "12: restore()", x.restore(), 4);
        int[] counts = {2, 1, 4, 60, 2, 1};
        for (int what = 0; what < counts.length; what++) {
            DUE.is("12: count(" + what + ")", x.count(what), counts[what]);
        }
        DUE.is("12: lines(0)", x.lines(0), 2);
        DUE.is("12: lines(2)", x.lines(2), 0);
        DUE.is("12: line(0, 0, 2)", x.line(0, 0, 2), 1);
        DUE.is("12: line(0, 1, 2)", x.line(0, 1, 2), 2);
        DUE.is("12: here(1, false)", x.here(1, false), 0);
        DUE.is("12: here(0, true)", x.here(0, true), 0);
        DUE.is("12: changeTold(1, 0)", x.changeTold(1, 0), -1);
        DUE.is("12: points(2, 0, 0)", x.points(2, 0, 0), -1);
        DUE.is("12: change(0, 1, 0, 0) of the TAPE", x.change(0, 1, 0, 0), 1);
        DUE.is("12: line(1, 0, 0)", x.line(1, 0, 0), 300);
        DUE.is("12: line(1, 1, 0)", x.line(1, 1, 0), 310);
    }

    private static void stays() {
        KnowHouse x = Made.with(1, 1);
        Made.change(x, 0, 0, 0, 0, 100);
        Made.change(x, 0, 0, 0, 0, 200);
        x.image();
        for (int i = 0; i < 3; i++) {
            x.read(0, 0, 0, 0);
            x.back(1, 0);
            x.read(0, 0, 0, 0);
            Made.change(x, 0, 0, 0, 0, 300);
            x.day(5);
            DUE.done(x, "12: restore() " + i, x.restore(), 0);
            DUE.is("12: count(1)", x.count(1), 2);
            DUE.is("12: line(0, 0, 0)", x.line(0, 0, 0), 200);
            DUE.is("12: line(0, 0, 2)", x.line(0, 0, 2), 1);
        }
        x.back(1, 0);
        DUE.is("12: a BACK behind it", x.line(0, 0, 0), 100);
        DUE.is("12: the MARKS of then", x.line(0, 0, 2), 1);
    }

    private static void inPlace() {
        KnowHouse x = Made.with(1, 1);
        x.image();
        x.day(3);
        x.image();
        x.day(3);
        DUE.done(x, "11: the later IMAGE", x.restore(), 3);
    }

    /** SHEETS, THE TRACE and how often it was restored are no part of it. */
    private static void notKept() {
        KnowHouse x = Made.with(1, 1);
        x.change(0, 0, 0, 0);
        x.sheet(0, 2, 1);
        x.cell(0, 0, 70);
        x.act(0, 0, 5);
        x.image();
        x.cell(0, 0, 80);
        x.sheet(1, 1, 2);
        x.act(0, 1, 5);
        x.restore();
        DUE.is("11: THE TRACE", x.count(7), 2);
        DUE.is("11: trace(0)", x.trace(0), 11);
        DUE.done(x, "11: SHEET 1", x.forge(2, 1, 1), 0);
        DUE.done(x, "11: SHEET 0", x.come(0, 2), 1);
        x.change(0, 0, 0, 0);
        DUE.is("11: SHEET 0's number", x.line(0, 0, 0), 80);
    }

    private static void tenTimes() {
        KnowHouse x = Made.with(1, 1);
        DUE.refused(x, "12: restore() of none", x.restore(), 3);
        x.day(2);
        x.image();
        for (int i = 0; i < 10; i++) {
            x.day(1);
            DUE.done(x, "12: restore() " + i, x.restore(), 2);
            x.image();
        }
        x.day(1);
        DUE.refused(x, "12: the eleventh restore()", x.restore(), 2);
        DUE.is("12: THE DAY stays", x.count(2), 3);
        DUE.done(x, "11: image() still", x.image(), 1);
        DUE.refused(x, "12: restore() no more", x.restore(), 2);
    }
}
