/** Promises 11 and 12, sentence by sentence: the IMAGE and what it brings back, at the edges. */
final class EdgesImageTest {
    private static final Due DUE = new Due();

    public static void main(String[] args) {
        people();
        hoursAndHere();
        dayAndShare();
        tape();
        lines();
        changes();
        nothingYet();
        fullOne();
        butSheets();
        butTrace();
        butHowOften();
        inPlaceOfOneBefore();
        staysAsItWas();
        imageOfRestored();
        theDay();
        tenTimes();
        refusedOnesDoNotCount();
        none();
        DUE.end();
    }

    private static void people() {
        DUE.sentence(11, "is kept as an IMAGE");
        KnowHouse x = Made.with(2, 0);
        x.image();
        for (int p = 2; p < 8; p++) {
            x.person(0);
        }
        x.restore();
        DUE.is("count(0)", x.count(0), 2);
        DUE.is("count(5)", x.count(5), 2);
        DUE.is("able(2, 0)", x.able(2, 0), -1);
        DUE.is("lost(4)", x.lost(4), -1);
        DUE.is("plan(1, 2)", x.plan(1, 2), -2);
        DUE.refused(x, "here(2, true)", x.here(2, true), 1);
        DUE.done(x, "person(0)", x.person(0), 2);
    }

    /** HOURS of a PERSON with the same number that came behind the IMAGE are gone; those of the IMAGE are back. */
    private static void hoursAndHere() {
        DUE.sentence(11, "All (but SHEETS, THE TRACE, how often it was restored) is kept");
        KnowHouse x = new KnowHouse();
        x.person(2);
        x.person(9);
        x.here(1, false);
        Made.change(x, 2, 0, 0, 0, 100, 200);
        x.image();
        x.here(0, false);
        x.here(1, true);
        x.restore();
        DUE.is("plan(1, 0) by 2 HOURS", x.plan(1, 0), 0);
        DUE.is("count(5)", x.count(5), 1);
        DUE.done(x, "here(0, true)", x.here(0, true), 0);
        DUE.done(x, "here(1, false)", x.here(1, false), 0);
        KnowHouse y = new KnowHouse();
        y.image();
        y.person(0);
        y.here(0, false);
        y.restore();
        y.person(1);
        DUE.is("HERE at first", y.count(5), 1);
        Made.change(y, 2, 0, 0, 0, 100);
        DUE.is("plan(1, 0) by 1 HOUR", y.plan(1, 0), 0);
    }

    private static void dayAndShare() {
        DUE.sentence(12, "All is as the IMAGE has it");
        KnowHouse x = Made.with(1, 0);
        x.day(7);
        x.share(60);
        x.image();
        x.day(1000);
        x.share(1);
        DUE.done(x, "restore()", x.restore(), 7);
        DUE.is("count(2)", x.count(2), 7);
        DUE.is("count(3)", x.count(3), 60);
        DUE.done(x, "day(1)", x.day(1), 8);
        DUE.done(x, "share(61)", x.share(61), 60);
    }

    private static void tape() {
        DUE.sentence(12, "All is as the IMAGE has it");
        KnowHouse x = Made.with(1, 0);
        x.text(100);
        x.text(200);
        x.image();
        x.wipe();
        x.text(300);
        x.text(400);
        x.text(500);
        x.restore();
        DUE.is("count(4)", x.count(4), 2);
        x.change(0, 0, 0, 0);
        DUE.is("line(0, 0, 0)", x.line(0, 0, 0), 100);
        DUE.is("line(0, 1, 0)", x.line(0, 1, 0), 200);
        x.restore();
        DUE.is("count(4) anew", x.count(4), 2);
        x.sheet(0, 2, 0);
        x.come(0, 2);
        x.restore();
        DUE.is("count(4) behind come", x.count(4), 2);
    }

    private static void lines() {
        DUE.sentence(12, "All is as the IMAGE has it");
        KnowHouse x = Made.with(2, 0);
        Made.change(x, 0, 0, 0, 0, 100, 200);
        x.read(1, 0, 0, 0);
        Made.change(x, 0, 5, 1, 0, 500);
        x.image();
        x.read(1, 0, 0, 1);
        Made.change(x, 1, 0, 1, 0, 205, 300, 400);
        x.change(0, 5, 0, 0);
        x.restore();
        DUE.is("lines(0)", x.lines(0), 2);
        DUE.is("lines(5)", x.lines(5), 1);
        DUE.is("line(0, 0, 0)", x.line(0, 0, 0), 100);
        DUE.is("line(0, 1, 0)", x.line(0, 1, 0), 200);
        DUE.is("line(0, 0, 1)", x.line(0, 0, 1), 0);
        DUE.is("line(5, 0, 1)", x.line(5, 0, 1), 1);
        DUE.is("line(0, 0, 2)", x.line(0, 0, 2), 2);
        DUE.is("line(0, 1, 2)", x.line(0, 1, 2), 1);
    }

    private static void changes() {
        DUE.sentence(12, "All is as the IMAGE has it");
        KnowHouse x = Made.with(2, 0);
        Made.change(x, 0, 0, 0, 0, 100);
        Made.change(x, 3, 0, 0, 1, 100, 200);
        x.image();
        x.back(0, 1);
        Made.change(x, 0, 1, 0, 0, 300);
        x.restore();
        DUE.is("count(1)", x.count(1), 2);
        DUE.is("changeTold(2, 0)", x.changeTold(2, 0), -1);
        DUE.is("changeTold(1, 7)", x.changeTold(1, 7), 1);
        x.day(3);
        DUE.is("another CHANGE with number 2", Made.change(x, 2, 4, 1, 0, 600), 2);
        DUE.is("changeTold(2, 0)", x.changeTold(2, 0), 2);
        DUE.is("changeTold(2, 1)", x.changeTold(2, 1), 4);
        x.restore();
        DUE.is("changeTold(2, 0) at last", x.changeTold(2, 0), -1);
        DUE.refused(x, "act(2, 0, 0)", x.act(2, 0, 0), 1);
    }

    private static void nothingYet() {
        DUE.sentence(11, "`int image()`");
        KnowHouse x = new KnowHouse();
        DUE.done(x, "image() of a new object", x.image(), 1);
        x.person(0);
        x.day(9);
        x.share(9);
        x.text(99);
        Made.lines(x, 0, 0, 3);
        DUE.done(x, "restore()", x.restore(), 0);
        int[] counts = {0, 0, 0, 50, 0, 0, 0, 0};
        for (int what = 0; what < counts.length; what++) {
            DUE.is("count(" + what + ")", x.count(what), counts[what]);
        }
        DUE.is("lines(0)", x.lines(0), 0);
        DUE.is("lost(0)", x.lost(0), 63);
    }

    private static void fullOne() {
        DUE.sentence(12, "All is as the IMAGE has it, which stays");
        KnowHouse x = Made.with(8, 0);
        for (int k = 0; k < 60; k++) {
            x.change(0, k % 6, 0, 0);
        }
        for (int i = 0; i < 20; i++) {
            x.text(10 + i);
        }
        x.image();
        x.wipe();
        x.restore();
        DUE.is("count(0)", x.count(0), 8);
        DUE.is("count(1)", x.count(1), 60);
        DUE.is("count(4)", x.count(4), 20);
        DUE.refused(x, "person(0)", x.person(0), 2);
        DUE.refused(x, "text(10)", x.text(10), 2);
        DUE.refused(x, "change(0, 0, 0, 0)", x.change(0, 0, 0, 0), 2);
        DUE.is("changeTold(59, 1)", x.changeTold(59, 1), 5);
    }

    private static void butSheets() {
        DUE.sentence(11, "(but SHEETS");
        KnowHouse x = new KnowHouse();
        x.sheet(0, 1, 2);
        x.cell(0, 0, 70);
        x.sheet(1, 0, 2);
        x.image();
        x.cell(0, 0, 80);
        x.sheet(1, -1, 0);
        x.sheet(2, 1, 3);
        x.restore();
        DUE.done(x, "a number that was put behind the IMAGE", x.forge(2, 0, 0), 80);
        DUE.refused(x, "a SHEET that is missing since", x.forge(3, 0, 1), 10);
        DUE.done(x, "a SHEET that came since", x.forge(2, 2, 2), 0);
    }

    private static void butTrace() {
        DUE.sentence(11, "(but SHEETS, THE TRACE");
        KnowHouse x = Made.with(1, 0);
        x.change(0, 0, 0, 0);
        x.act(0, 1, 5);
        x.image();
        x.act(0, 2, 5);
        x.restore();
        DUE.is("count(7)", x.count(7), 1);
        DUE.is("trace(0)", x.trace(0), 12);
        KnowHouse y = Made.with(1, 0);
        y.image();
        y.change(0, 0, 0, 0);
        y.act(0, 3, 5);
        y.restore();
        DUE.is("count(1) of y", y.count(1), 0);
        DUE.is("count(7), its CHANGE is none any more", y.count(7), 4);
        DUE.is("trace(0) of y", y.trace(0), 13);
    }

    private static void butHowOften() {
        DUE.sentence(11, "how often it was restored)");
        KnowHouse x = new KnowHouse();
        for (int i = 0; i < 10; i++) {
            x.image();
            DUE.done(x, "restore() behind an IMAGE of its own", x.restore(), 0);
        }
        x.image();
        DUE.refused(x, "the eleventh one", x.restore(), 2);
    }

    private static void inPlaceOfOneBefore() {
        DUE.sentence(11, "in place of one before: 1");
        KnowHouse x = Made.with(1, 0);
        DUE.done(x, "image()", x.image(), 1);
        Made.change(x, 0, 0, 0, 0, 100);
        x.day(3);
        DUE.done(x, "image() again", x.image(), 1);
        Made.change(x, 0, 0, 0, 0, 200);
        x.day(3);
        DUE.done(x, "restore()", x.restore(), 3);
        DUE.is("line(0, 0, 0)", x.line(0, 0, 0), 100);
        DUE.done(x, "restore() again", x.restore(), 3);
        DUE.is("count(1)", x.count(1), 1);
    }

    private static void staysAsItWas() {
        DUE.sentence(12, "which stays: THE DAY");
        KnowHouse x = Made.with(1, 0);
        Made.change(x, 0, 0, 0, 0, 100);
        x.text(700);
        x.image();
        for (int i = 0; i < 3; i++) {
            DUE.done(x, "restore()", x.restore(), 0);
            DUE.is("count(0)", x.count(0), 1);
            DUE.is("count(1)", x.count(1), 1);
            DUE.is("count(3)", x.count(3), 50);
            DUE.is("count(4)", x.count(4), 1);
            DUE.is("count(5)", x.count(5), 1);
            DUE.is("line(0, 0, 2)", x.line(0, 0, 2), 1);
            x.wipe();
            x.text(800 + i);
            x.person(0);
            x.here(0, false);
            x.share(70);
            x.day(10);
            x.read(1, 0, 0, 0);
            x.change(0, 0, 1, 0);
        }
        x.restore();
        x.change(0, 1, 0, 0);
        DUE.is("its TAPE", x.line(1, 0, 0), 700);
    }

    private static void imageOfRestored() {
        DUE.sentence(11, "All (but SHEETS, THE TRACE, how often it was restored) is kept");
        KnowHouse x = Made.with(1, 0);
        x.day(1);
        x.image();
        x.day(1);
        x.restore();
        x.day(5);
        x.image();
        x.day(5);
        DUE.done(x, "restore() of an IMAGE behind a restore()", x.restore(), 6);
    }

    private static void theDay() {
        DUE.sentence(12, "which stays: THE DAY. STATUS 2");
        KnowHouse x = Made.with(1, 0);
        Made.day(x, 100000);
        x.image();
        DUE.done(x, "restore() on the last DAY", x.restore(), 100000);
        KnowHouse y = Made.with(1, 0);
        y.image();
        Made.lines(y, 0, 0, 1);
        y.day(50);
        y.restore();
        DUE.done(y, "day(1) from 0 on again", y.day(1), 1);
    }

    private static void tenTimes() {
        DUE.sentence(12, "STATUS 2 (this was done 10 times)");
        KnowHouse x = Made.with(1, 0);
        x.image();
        for (int i = 1; i <= 10; i++) {
            x.day(1);
            DUE.done(x, "restore(), time " + i, x.restore(), 0);
        }
        x.day(4);
        DUE.refused(x, "restore(), the eleventh time", x.restore(), 2);
        DUE.refused(x, "restore(), once more", x.restore(), 2);
        DUE.is("count(2)", x.count(2), 4);
        DUE.done(x, "image() is done still", x.image(), 1);
        DUE.refused(x, "restore() behind it", x.restore(), 2);
    }

    private static void refusedOnesDoNotCount() {
        DUE.sentence(12, "2 (this was done 10 times), 3 (there is none)");
        KnowHouse x = new KnowHouse();
        for (int i = 0; i < 12; i++) {
            DUE.refused(x, "restore() of none", x.restore(), 3);
        }
        x.image();
        for (int i = 0; i < 10; i++) {
            DUE.done(x, "restore()", x.restore(), 0);
        }
        DUE.refused(x, "the eleventh one", x.restore(), 2);
    }

    private static void none() {
        DUE.sentence(12, "3 (there is none)");
        KnowHouse x = Made.with(2, 0);
        x.day(5);
        Made.lines(x, 0, 0, 2);
        x.text(100);
        DUE.refused(x, "restore()", x.restore(), 3);
        DUE.is("count(0)", x.count(0), 2);
        DUE.is("count(2)", x.count(2), 5);
        DUE.is("count(4)", x.count(4), 1);
        DUE.is("lines(0)", x.lines(0), 2);
    }
}
