/** Promises 1 to 7, sentence by sentence: a new object, PEOPLE, THE DAY, SHARE and THE TAPE at their edges. */
final class EdgesPeopleTest {
    private static final int[] FAR_BELOW_AND_ABOVE = {Integer.MIN_VALUE, -1000000, 1000000, Integer.MAX_VALUE};
    private static final Due DUE = new Due();

    public static void main(String[] args) {
        noPeople();
        noChanges();
        filesWithoutLines();
        firstDay();
        firstShare();
        missingAtFirst();
        nothingElseAtFirst();
        newBesideUsed();
        hours();
        mostPeople();
        hereAtFirst();
        hereOrNot();
        hereOfNobody();
        daysOn();
        lastDay();
        shares();
        shareAsItWas();
        texts();
        fullTape();
        wipe();
        DUE.end();
    }

    private static void noPeople() {
        DUE.sentence(1, "No PEOPLE");
        KnowHouse x = new KnowHouse();
        DUE.is("count(0)", x.count(0), 0);
        DUE.is("count(5)", x.count(5), 0);
        DUE.is("points(0, 0, 0)", x.points(0, 0, 0), -1);
        DUE.is("knows(0, 0)", x.knows(0, 0), -1);
        DUE.is("able(0, 0)", x.able(0, 0), -1);
        DUE.is("lost(0)", x.lost(0), 63);
        DUE.is("lost(1)", x.lost(1), -1);
        DUE.is("lone(0)", x.lone(0), -1);
        DUE.is("cover()", x.cover(), 0);
        DUE.is("plan(1, -1)", x.plan(1, -1), 0);
        DUE.is("plan(1, 0)", x.plan(1, 0), -2);
        DUE.is("sum(0, -1)", x.sum(0, -1), -1);
        DUE.refused(x, "here(0, true)", x.here(0, true), 1);
        DUE.refused(x, "change(0, 0, 0, 0)", x.change(0, 0, 0, 0), 1);
        DUE.refused(x, "read(0, 0, 0, 0)", x.read(0, 0, 0, 0), 1);
    }

    private static void noChanges() {
        DUE.sentence(1, "no CHANGES");
        KnowHouse x = Made.with(1, 0);
        DUE.is("count(1)", x.count(1), 0);
        for (int what = 0; what < 8; what++) {
            DUE.is("changeTold(0, " + what + ")", x.changeTold(0, what), -1);
        }
        DUE.refused(x, "back(0, 0)", x.back(0, 0), 1);
        DUE.refused(x, "act(0, 0, 0)", x.act(0, 0, 0), 1);
        DUE.refused(x, "forge(0, 0, 0)", x.forge(0, 0, 0), 10);
        DUE.done(x, "forge(4, 0, 0)", x.forge(4, 0, 0), 0);
        DUE.done(x, "change(0, 0, 0, 0)", x.change(0, 0, 0, 0), 0);
    }

    private static void filesWithoutLines() {
        DUE.sentence(1, "FILES without LINES");
        KnowHouse x = Made.with(1, 0);
        for (int f = 0; f < 6; f++) {
            DUE.is("lines(" + f + ")", x.lines(f), 0);
            DUE.is("line(" + f + ", 0, 0)", x.line(f, 0, 0), -1);
            DUE.is("mark(" + f + ", 0, 0, 0)", x.mark(f, 0, 0, 0), -1);
            DUE.is("points(0, " + f + ", 0)", x.points(0, f, 0), -1);
            DUE.is("knows(0, " + f + ")", x.knows(0, f), 0);
            DUE.is("sum(0, " + f + ")", x.sum(0, f), 0);
            DUE.refused(x, "read(0, " + f + ", 0, 0)", x.read(0, f, 0, 0), 1);
        }
    }

    private static void firstDay() {
        DUE.sentence(1, "THE DAY is 0 at first");
        KnowHouse x = Made.with(1, 0);
        DUE.is("count(2)", x.count(2), 0);
        Made.change(x, 0, 0, 0, 0, 100);
        DUE.is("changeTold(0, 4)", x.changeTold(0, 4), 0);
        DUE.is("mark(0, 0, 0, 1)", x.mark(0, 0, 0, 1), 0);
        DUE.done(x, "day(0)", x.day(0), 0);
    }

    private static void firstShare() {
        DUE.sentence(5, "SHARE hundredths (50 at first)");
        KnowHouse x = Made.with(2, 0);
        DUE.is("count(3)", x.count(3), 50);
        Made.lines(x, 0, 0, 1);
        Made.lines(x, 0, 1, 2);
        Made.lines(x, 1, 0, 1);
        Made.lines(x, 1, 1, 3);
        DUE.is("able(0, 0): 1 of 2", x.able(0, 0), 1);
        DUE.is("able(0, 1): 1 of 3", x.able(0, 1), 0);
        DUE.done(x, "share(50)", x.share(50), 50);
    }

    private static void missingAtFirst() {
        DUE.sentence(28, "or missing (as all are at first)");
        KnowHouse x = new KnowHouse();
        for (int sheet = 0; sheet < 4; sheet++) {
            DUE.refused(x, "cell(" + sheet + ", 0, 0)", x.cell(sheet, 0, 0), 10);
            for (int sort = 0; sort < 3; sort++) {
                DUE.refused(x, "come(" + sheet + ", " + sort + ")", x.come(sheet, sort), 10);
            }
            DUE.refused(x, "forge(2, 0, " + sheet + ")", x.forge(2, 0, sheet), 10);
            DUE.refused(x, "forge(3, 0, " + sheet + ")", x.forge(3, 0, sheet), 10);
        }
    }

    private static void nothingElseAtFirst() {
        DUE.sentence(1, "`KnowHouse()`");
        KnowHouse x = new KnowHouse();
        DUE.is("status()", x.status(), 0);
        DUE.is("count(4)", x.count(4), 0);
        DUE.is("count(6)", x.count(6), 0);
        DUE.is("count(7)", x.count(7), 0);
        DUE.is("trace(0)", x.trace(0), -1);
        DUE.done(x, "wipe()", x.wipe(), 0);
        DUE.refused(x, "restore()", x.restore(), 3);
    }

    /** Objects share nothing: a second one is new, however the first one was used, and stays so. */
    private static void newBesideUsed() {
        DUE.sentence(1, "No PEOPLE, no CHANGES, FILES without LINES.");
        KnowHouse used = Made.with(8, 9);
        KnowHouse x = new KnowHouse();
        Made.lines(used, 0, 0, 20);
        used.act(0, 3, 1);
        used.share(9);
        used.day(9);
        used.text(10);
        used.image();
        used.sheet(0, 1, 4);
        int[] counts = {0, 0, 0, 50, 0, 0, 0, 0};
        KnowHouse[] both = {x, new KnowHouse()};
        for (KnowHouse fresh : both) {
            for (int what = 0; what < counts.length; what++) {
                DUE.is("count(" + what + ")", fresh.count(what), counts[what]);
            }
            DUE.is("lines(0)", fresh.lines(0), 0);
            DUE.refused(fresh, "restore()", fresh.restore(), 3);
            DUE.refused(fresh, "cell(0, 0, 0)", fresh.cell(0, 0, 0), 10);
        }
    }

    private static void hours() {
        DUE.sentence(2, "have HOURS 0 .. 99");
        KnowHouse x = new KnowHouse();
        DUE.refused(x, "person(-1)", x.person(-1), 1);
        DUE.refused(x, "person(100)", x.person(100), 1);
        for (int hours : FAR_BELOW_AND_ABOVE) {
            DUE.refused(x, "person(" + hours + ")", x.person(hours), 1);
        }
        DUE.is("count(0)", x.count(0), 0);
        DUE.done(x, "person(0)", x.person(0), 0);
        DUE.done(x, "person(99)", x.person(99), 1);
        DUE.is("count(0) then", x.count(0), 2);
    }

    private static void mostPeople() {
        DUE.sentence(2, "PEOPLE (8 at most, numbered from 0)");
        KnowHouse x = new KnowHouse();
        for (int p = 0; p < 8; p++) {
            DUE.done(x, "person, the one with number " + p, x.person(p), p);
        }
        DUE.refused(x, "person(0), the ninth", x.person(0), 2);
        DUE.refused(x, "person(100), the ninth", x.person(100), 1);
        DUE.refused(x, "person(-1), the ninth", x.person(-1), 1);
        DUE.is("count(0)", x.count(0), 8);
        DUE.is("count(5)", x.count(5), 8);
        x.here(3, false);
        DUE.refused(x, "person(0), the ninth, one is not HERE", x.person(0), 2);
        DUE.is("able(7, 0)", x.able(7, 0), 1);
        DUE.is("able(8, 0)", x.able(8, 0), -1);
    }

    private static void hereAtFirst() {
        DUE.sentence(2, "and are HERE (at first) or not");
        KnowHouse x = new KnowHouse();
        for (int p = 0; p < 8; p++) {
            x.person(0);
            DUE.is("count(5)", x.count(5), p + 1);
            DUE.done(x, "here(" + p + ", true)", x.here(p, true), 0);
        }
    }

    private static void hereOrNot() {
        DUE.sentence(3, "1 if it was otherwise, else 0");
        for (int p = 0; p < 8; p++) {
            KnowHouse x = Made.with(8, 0);
            DUE.done(x, "here(p, true) of one HERE", x.here(p, true), 0);
            DUE.is("count(5)", x.count(5), 8);
            DUE.done(x, "here(p, false) of one HERE", x.here(p, false), 1);
            DUE.is("count(5) then", x.count(5), 7);
            DUE.is("lost of the others", x.lost(255 & ~(1 << p)), 63);
            DUE.done(x, "here(p, false) of one that is not HERE", x.here(p, false), 0);
            DUE.is("count(5) still", x.count(5), 7);
            DUE.done(x, "here(p, true) of one that is not HERE", x.here(p, true), 1);
            DUE.is("count(5) again", x.count(5), 8);
        }
    }

    private static void hereOfNobody() {
        DUE.sentence(3, "A PERSON is HERE, or not: 1 if it was otherwise, else 0. STATUS 1.");
        KnowHouse x = Made.with(3, 0);
        DUE.refused(x, "here(-1, true)", x.here(-1, true), 1);
        DUE.refused(x, "here(3, true)", x.here(3, true), 1);
        DUE.refused(x, "here(3, false)", x.here(3, false), 1);
        DUE.refused(x, "here(32, false)", x.here(32, false), 1);
        DUE.refused(x, "here(-32, false)", x.here(-32, false), 1);
        for (int p : FAR_BELOW_AND_ABOVE) {
            DUE.refused(x, "here(" + p + ", false)", x.here(p, false), 1);
        }
        DUE.is("count(5)", x.count(5), 3);
    }

    private static void daysOn() {
        DUE.sentence(4, "THE DAY goes n (0 .. 1000) on: what it is.");
        KnowHouse x = new KnowHouse();
        DUE.refused(x, "day(-1)", x.day(-1), 1);
        DUE.refused(x, "day(1001)", x.day(1001), 1);
        for (int n : FAR_BELOW_AND_ABOVE) {
            DUE.refused(x, "day(" + n + ")", x.day(n), 1);
        }
        DUE.is("count(2)", x.count(2), 0);
        DUE.done(x, "day(1000)", x.day(1000), 1000);
        DUE.done(x, "day(0)", x.day(0), 1000);
        DUE.done(x, "day(1)", x.day(1), 1001);
    }

    private static void lastDay() {
        DUE.sentence(4, "(it would be above 100000)");
        KnowHouse x = new KnowHouse();
        Made.day(x, 99001);
        DUE.refused(x, "day(1000) to 100001", x.day(1000), 2);
        DUE.is("count(2)", x.count(2), 99001);
        DUE.refused(x, "day(1001) to 100002", x.day(1001), 1);
        DUE.refused(x, "day(MAX)", x.day(Integer.MAX_VALUE), 1);
        DUE.done(x, "day(999) to 100000", x.day(999), 100000);
        DUE.done(x, "day(0) at 100000", x.day(0), 100000);
        DUE.refused(x, "day(1) at 100000", x.day(1), 2);
        DUE.refused(x, "day(-1) at 100000", x.day(-1), 1);
        DUE.is("count(2) at the end", x.count(2), 100000);
    }

    private static void shares() {
        DUE.sentence(5, "SHARE becomes n (1 .. 100)");
        KnowHouse x = new KnowHouse();
        DUE.refused(x, "share(0)", x.share(0), 1);
        DUE.refused(x, "share(-1)", x.share(-1), 1);
        DUE.refused(x, "share(101)", x.share(101), 1);
        for (int n : FAR_BELOW_AND_ABOVE) {
            DUE.refused(x, "share(" + n + ")", x.share(n), 1);
        }
        DUE.is("count(3)", x.count(3), 50);
        DUE.done(x, "share(100)", x.share(100), 50);
        DUE.is("count(3) then", x.count(3), 100);
        DUE.done(x, "share(1)", x.share(1), 100);
        DUE.is("count(3) at last", x.count(3), 1);
    }

    private static void shareAsItWas() {
        DUE.sentence(5, "what it was. STATUS 1.");
        KnowHouse x = new KnowHouse();
        DUE.done(x, "share(30)", x.share(30), 50);
        DUE.done(x, "share(30) again", x.share(30), 30);
        DUE.refused(x, "share(101)", x.share(101), 1);
        DUE.done(x, "share(31)", x.share(31), 30);
    }

    private static void texts() {
        DUE.sentence(6, "each with a TEXT 10 .. 9999");
        KnowHouse x = Made.with(1, 0);
        DUE.refused(x, "text(9)", x.text(9), 1);
        DUE.refused(x, "text(0)", x.text(0), 1);
        DUE.refused(x, "text(-10)", x.text(-10), 1);
        DUE.refused(x, "text(10000)", x.text(10000), 1);
        for (int text : FAR_BELOW_AND_ABOVE) {
            DUE.refused(x, "text(" + text + ")", x.text(text), 1);
        }
        DUE.is("count(4)", x.count(4), 0);
        DUE.done(x, "text(10)", x.text(10), 1);
        DUE.done(x, "text(9999)", x.text(9999), 2);
        x.change(0, 0, 0, 0);
        DUE.is("line(0, 0, 0)", x.line(0, 0, 0), 10);
        DUE.is("line(0, 1, 0)", x.line(0, 1, 0), 9999);
    }

    private static void fullTape() {
        DUE.sentence(6, "THE TAPE has numbers (20 at most).");
        KnowHouse x = Made.with(1, 0);
        for (int i = 1; i <= 20; i++) {
            DUE.done(x, "text, number " + i, x.text(100 + i), i);
        }
        DUE.refused(x, "text(10), the 21st", x.text(10), 2);
        DUE.refused(x, "text(9), the 21st", x.text(9), 1);
        DUE.refused(x, "text(10000), the 21st", x.text(10000), 1);
        DUE.is("count(4)", x.count(4), 20);
        x.change(0, 5, 0, 0);
        DUE.is("lines(5)", x.lines(5), 20);
        for (int i = 0; i < 20; i++) {
            DUE.is("line(5, " + i + ", 0)", x.line(5, i, 0), 101 + i);
        }
        DUE.is("line(5, 20, 0)", x.line(5, 20, 0), -1);
        DUE.done(x, "text(10) behind the CHANGE", x.text(10), 1);
    }

    private static void wipe() {
        DUE.sentence(7, "THE TAPE is empty then: how many it had.");
        KnowHouse x = Made.with(1, 0);
        DUE.done(x, "wipe() of an empty one", x.wipe(), 0);
        for (int i = 0; i < 20; i++) {
            x.text(100);
        }
        DUE.done(x, "wipe() of a full one", x.wipe(), 20);
        DUE.is("count(4)", x.count(4), 0);
        DUE.done(x, "wipe() again", x.wipe(), 0);
        DUE.done(x, "text(200)", x.text(200), 1);
        x.change(0, 0, 0, 0);
        DUE.is("lines(0)", x.lines(0), 1);
        DUE.is("line(0, 0, 0)", x.line(0, 0, 0), 200);
        x.text(300);
        x.wipe();
        x.change(0, 0, 0, 0);
        DUE.is("lines(0) behind wipe()", x.lines(0), 0);
    }
}
