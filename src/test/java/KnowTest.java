/** Promises 10, 15, 17, 18, 19: READINGS, MARKS, POINTS, who KNOWS a LINE and who is ABLE. */
final class KnowTest {
    private static final Due DUE = new Due();

    public static void main(String[] args) {
        read();
        readRefused();
        ninthMark();
        mark();
        fading();
        points();
        knows();
        able();
        DUE.end();
    }

    private static void read() {
        KnowHouse x = Made.with(2, 1);
        Made.lines(x, 1, 0, 4);
        x.day(6);
        DUE.done(x, "10: read(1, 1, 1, 2)", x.read(1, 1, 1, 2), 2);
        DUE.done(x, "10: read(1, 1, 2, 2)", x.read(1, 1, 2, 2), 1);
        DUE.done(x, "10: read(0, 1, 0, 3)", x.read(0, 1, 0, 3), 4);
        int[] marks = {2, 3, 4, 2};
        for (int i = 0; i < 4; i++) {
            DUE.is("10: MARKS of " + i, x.line(1, i, 2), marks[i]);
        }
        DUE.is("10: mark(1, 2, 1, 0)", x.mark(1, 2, 1, 0), 1);
        DUE.is("10: mark(1, 2, 1, 1)", x.mark(1, 2, 1, 1), 6);
        DUE.is("10: mark(1, 2, 1, 2)", x.mark(1, 2, 1, 2), 3);
        DUE.is("10: mark(1, 2, 3, 0)", x.mark(1, 2, 3, 0), 0);
        DUE.is("10: mark(1, 0, 1, 2)", x.mark(1, 0, 1, 2), 3);
        DUE.is("10: the TEXT stays", x.line(1, 2, 0), 1020);
        DUE.is("10: the MAKER stays", x.line(1, 2, 1), 0);
    }

    private static void readRefused() {
        KnowHouse x = Made.with(2, 1);
        Made.lines(x, 1, 0, 4);
        x.here(1, false);
        DUE.refused(x, "10: read(-1, 1, 0, 0)", x.read(-1, 1, 0, 0), 1);
        DUE.refused(x, "10: read(2, 1, 0, 0)", x.read(2, 1, 0, 0), 1);
        DUE.refused(x, "10: read(0, -1, 0, 0)", x.read(0, -1, 0, 0), 1);
        DUE.refused(x, "10: read(0, 6, 0, 0)", x.read(0, 6, 0, 0), 1);
        DUE.refused(x, "10: read(0, 0, 0, 0) of none", x.read(0, 0, 0, 0), 1);
        DUE.refused(x, "10: read(0, 1, -1, 0)", x.read(0, 1, -1, 0), 1);
        DUE.refused(x, "10: read(0, 1, 0, 4)", x.read(0, 1, 0, 4), 1);
        DUE.refused(x, "10: read(0, 1, 4, 4)", x.read(0, 1, 4, 4), 1);
        DUE.refused(x, "10: read(0, 1, 2, 1)", x.read(0, 1, 2, 1), 1);
        DUE.refused(x, "10: read(1, 1, 2, 1)", x.read(1, 1, 2, 1), 1);
        DUE.refused(x, "10: read(1, 1, 1, 2)", x.read(1, 1, 1, 2), 3);
        for (int i = 0; i < 4; i++) {
            DUE.is("10: MARKS stay", x.line(1, i, 2), 1);
        }
    }

    private static void ninthMark() {
        KnowHouse x = Made.with(2, 1);
        Made.lines(x, 0, 0, 1);
        for (int i = 1; i <= 7; i++) {
            x.day(1);
            x.read(1, 0, 0, 0);
        }
        DUE.is("10: eight MARKS", x.line(0, 0, 2), 8);
        DUE.is("10: the first one is the HAND's", x.mark(0, 0, 0, 2), 8);
        x.day(1);
        x.read(1, 0, 0, 0);
        DUE.is("10: eight MARKS still", x.line(0, 0, 2), 8);
        for (int k = 0; k < 8; k++) {
            DUE.is("10: PERSON of " + k, x.mark(0, 0, k, 0), 1);
            DUE.is("10: DAY of " + k, x.mark(0, 0, k, 1), k + 1);
        }
        DUE.is("10: points(0, 0, 0)", x.points(0, 0, 0), 0);
        DUE.is("10: points(1, 0, 0)", x.points(1, 0, 0), 24);
    }

    private static void mark() {
        KnowHouse x = Made.with(1, 1);
        Made.lines(x, 2, 0, 1);
        DUE.is("15: mark(2, 0, 0, 2)", x.mark(2, 0, 0, 2), 8);
        DUE.is("15: mark(2, 0, 0, 3)", x.mark(2, 0, 0, 3), -1);
        DUE.is("15: mark(2, 0, 0, -1)", x.mark(2, 0, 0, -1), -1);
        DUE.is("15: mark(2, 0, 1, 0)", x.mark(2, 0, 1, 0), -1);
        DUE.is("15: mark(2, 0, -1, 0)", x.mark(2, 0, -1, 0), -1);
        DUE.is("15: mark(2, 0, MAX, 0)", x.mark(2, 0, Integer.MAX_VALUE, 0), -1);
        DUE.is("15: mark(2, 1, 0, 0)", x.mark(2, 1, 0, 0), -1);
        DUE.is("15: mark(2, -1, 0, 0)", x.mark(2, -1, 0, 0), -1);
        DUE.is("15: mark(6, 0, 0, 0)", x.mark(6, 0, 0, 0), -1);
        DUE.is("15: mark(-1, 0, 0, 0)", x.mark(-1, 0, 0, 0), -1);
    }

    private static void fading() {
        KnowHouse x = Made.with(1, 1);
        Made.lines(x, 0, 0, 1);
        x.day(9);
        DUE.is("17: behind 9 days", x.points(0, 0, 0), 8);
        x.day(1);
        DUE.is("17: behind 10 days", x.points(0, 0, 0), 7);
        x.read(0, 0, 0, 0);
        DUE.is("17: read", x.points(0, 0, 0), 10);
        x.day(69);
        DUE.is("17: behind 79 days", x.points(0, 0, 0), 1);
        x.day(1);
        DUE.is("17: behind 80 days", x.points(0, 0, 0), 0);
        x.read(0, 0, 0, 0);
        Made.day(x, 29);
        DUE.is("17: a MARK is WORTH 0 at least", x.points(0, 0, 0), 1);
        Made.day(x, 5000);
        DUE.is("17: long behind", x.points(0, 0, 0), 0);
    }

    private static void points() {
        KnowHouse x = Made.with(2, 1);
        Made.lines(x, 0, 0, 2);
        DUE.is("17: points(1, 0, 0)", x.points(1, 0, 0), 0);
        DUE.is("17: points(2, 0, 0)", x.points(2, 0, 0), -1);
        DUE.is("17: points(-1, 0, 0)", x.points(-1, 0, 0), -1);
        DUE.is("17: points(0, 0, 2)", x.points(0, 0, 2), -1);
        DUE.is("17: points(0, 0, -1)", x.points(0, 0, -1), -1);
        DUE.is("17: points(0, 6, 0)", x.points(0, 6, 0), -1);
        DUE.is("17: points(0, -1, 0)", x.points(0, -1, 0), -1);
        x.here(0, false);
        DUE.is("17: points of one that is not HERE", x.points(0, 0, 0), 8);
    }

    private static void knows() {
        KnowHouse x = Made.with(2, 1);
        Made.lines(x, 0, 0, 3);
        x.read(1, 0, 0, 1);
        DUE.is("18: 3 POINTS are too few", x.knows(1, 0), 0);
        x.read(1, 0, 1, 2);
        DUE.is("18: 6 POINTS", x.knows(1, 0), 1);
        x.day(30);
        DUE.is("18: 5 POINTS", x.knows(0, 0), 3);
        x.day(10);
        DUE.is("18: 4 POINTS", x.knows(0, 0), 0);
        x.here(0, false);
        DUE.is("18: knows(0, 1)", x.knows(0, 1), 0);
        DUE.is("18: knows(2, 0)", x.knows(2, 0), -1);
        DUE.is("18: knows(-1, 0)", x.knows(-1, 0), -1);
        DUE.is("18: knows(0, 6)", x.knows(0, 6), -1);
        DUE.is("18: knows(0, -1)", x.knows(0, -1), -1);
    }

    private static void able() {
        KnowHouse x = Made.with(2, 1);
        Made.lines(x, 0, 0, 3);
        x.read(1, 0, 0, 0);
        x.read(1, 0, 0, 0);
        DUE.is("19: 1 of 3 by 50", x.able(1, 0), 0);
        x.share(33);
        DUE.is("19: 1 of 3 by 33", x.able(1, 0), 1);
        x.share(34);
        DUE.is("19: 1 of 3 by 34", x.able(1, 0), 0);
        x.share(66);
        x.read(1, 0, 1, 1);
        x.read(1, 0, 1, 1);
        DUE.is("19: 2 of 3 by 66", x.able(1, 0), 1);
        x.share(67);
        DUE.is("19: 2 of 3 by 67", x.able(1, 0), 0);
        x.share(100);
        DUE.is("19: 3 of 3 by 100", x.able(0, 0), 1);
        x.here(0, false);
        DUE.is("19: one that is not HERE", x.able(0, 0), 1);
        DUE.is("19: a FILE without LINES", x.able(1, 3), 1);
        x.share(50);
        Made.lines(x, 1, 1, 1);
        Made.lines(x, 1, 1, 2);
        DUE.is("19: none of 2", x.able(0, 1), 0);
        DUE.is("19: able(2, 0)", x.able(2, 0), -1);
        DUE.is("19: able(-1, 0)", x.able(-1, 0), -1);
        DUE.is("19: able(0, 6)", x.able(0, 6), -1);
        DUE.is("19: able(0, -1)", x.able(0, -1), -1);
    }
}
