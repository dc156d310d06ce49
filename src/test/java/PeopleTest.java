/** Promises 1 to 5: a new object, person, here, day, share; and what count tells of them (25). */
final class PeopleTest {
    private static final Due DUE = new Due();

    public static void main(String[] args) {
        newObject();
        person();
        here();
        day();
        share();
        DUE.end();
    }

    private static void newObject() {
        KnowHouse x = new KnowHouse();
        int[] counts = {0, 0, 0, 50, 0, 0, 0, 0};
        for (int what = 0; what < counts.length; what++) {
            DUE.is("1: count(" + what + ")", x.count(what), counts[what]);
        }
        for (int f = 0; f < 6; f++) {
            DUE.is("1: lines(" + f + ")", x.lines(f), 0);
        }
        DUE.is("1: status()", x.status(), 0);
        DUE.is("1: changeTold(0, 0)", x.changeTold(0, 0), -1);
        DUE.is("1: lost(0)", x.lost(0), 63);
        DUE.is("1: lost(1)", x.lost(1), -1);
        DUE.is("1: cover()", x.cover(), 0);
        DUE.is("1: lone(0)", x.lone(0), -1);
        DUE.is("1: plan(1, -1)", x.plan(1, -1), 0);
        DUE.is("1: plan(1, 0)", x.plan(1, 0), -2);
        DUE.is("25: count(-1)", x.count(-1), -1);
        DUE.is("25: count(8)", x.count(8), -1);
    }

    private static void person() {
        KnowHouse x = new KnowHouse();
        DUE.refused(x, "2: person(-1)", x.person(-1), 1);
        DUE.refused(x, "2: person(100)", x.person(100), 1);
        for (int p = 0; p < 8; p++) {
            DUE.done(x, "2: person", x.person(p % 2 == 0 ? 0 : 99), p);
        }
        DUE.refused(x, "2: a ninth person(5)", x.person(5), 2);
        DUE.refused(x, "2: a ninth person(100)", x.person(100), 1);
        DUE.is("2: count(0)", x.count(0), 8);
        DUE.is("2: count(5)", x.count(5), 8);
    }

    private static void here() {
        KnowHouse x = Made.with(8, 1);
        DUE.done(x, "3: here(7, true)", x.here(7, true), 0);
        DUE.done(x, "3: here(7, false)", x.here(7, false), 1);
        DUE.done(x, "3: here(7, false) again", x.here(7, false), 0);
        DUE.is("3: count(5)", x.count(5), 7);
        DUE.is("3: count(0)", x.count(0), 8);
        DUE.done(x, "3: here(7, true) back", x.here(7, true), 1);
        DUE.is("3: count(5) back", x.count(5), 8);
        DUE.refused(x, "3: here(8, true)", x.here(8, true), 1);
        DUE.refused(x, "3: here(-1, false)", x.here(-1, false), 1);
        DUE.is("3: count(5) behind wrong ones", x.count(5), 8);
    }

    private static void day() {
        KnowHouse x = new KnowHouse();
        DUE.done(x, "4: day(0)", x.day(0), 0);
        DUE.done(x, "4: day(3)", x.day(3), 3);
        DUE.refused(x, "4: day(-1)", x.day(-1), 1);
        DUE.refused(x, "4: day(1001)", x.day(1001), 1);
        DUE.is("4: count(2)", x.count(2), 3);
        for (int i = 1; i <= 99; i++) {
            DUE.done(x, "4: day(1000)", x.day(1000), 3 + 1000 * i);
        }
        DUE.refused(x, "4: day(998)", x.day(998), 2);
        DUE.refused(x, "4: day(1001) late", x.day(1001), 1);
        DUE.done(x, "4: day(997)", x.day(997), 100000);
        DUE.refused(x, "4: day(1) at the end", x.day(1), 2);
        DUE.done(x, "4: day(0) at the end", x.day(0), 100000);
    }

    private static void share() {
        KnowHouse x = new KnowHouse();
        DUE.done(x, "5: share(1)", x.share(1), 50);
        DUE.done(x, "5: share(100)", x.share(100), 1);
        DUE.refused(x, "5: share(0)", x.share(0), 1);
        DUE.refused(x, "5: share(101)", x.share(101), 1);
        DUE.is("5: count(3)", x.count(3), 100);
    }
}
