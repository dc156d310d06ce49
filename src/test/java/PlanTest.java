/** Promise 23: THE PLAN. */
final class PlanTest {
    private static final Due DUE = new Due();

    public static void main(String[] args) {
        wrong();
        nothingToDo();
        oneTask();
        hours();
        ninthMark();
        byShare();
        leastHours();
        firstFile();
        many();
        notHere();
        tooMany();
        full();
        DUE.end();
    }

    private static void plan(String what, KnowHouse x, int many, int hours, int... files) {
        DUE.is("23: " + what + ": HOURS", x.plan(many, -1), hours);
        for (int p = 0; p < files.length; p++) {
            DUE.is("23: " + what + ": PERSON " + p, x.plan(many, p), files[p]);
        }
    }

    private static void none(String what, KnowHouse x, int many) {
        for (int p = -1; p < x.count(0); p++) {
            DUE.is("23: " + what + ": " + p, x.plan(many, p), -2);
        }
    }

    private static void wrong() {
        KnowHouse x = Made.with(2, 9);
        DUE.is("23: plan(0, -1)", x.plan(0, -1), -2);
        DUE.is("23: plan(4, -1)", x.plan(4, -1), -2);
        DUE.is("23: plan(-1, 0)", x.plan(-1, 0), -2);
        DUE.is("23: plan(1, -2)", x.plan(1, -2), -2);
        DUE.is("23: plan(1, 2)", x.plan(1, 2), -2);
        DUE.is("23: plan(1, MIN)", x.plan(1, Integer.MIN_VALUE), -2);
        DUE.is("23: plan(1, MAX)", x.plan(1, Integer.MAX_VALUE), -2);
    }

    private static void nothingToDo() {
        KnowHouse x = Made.with(2, 9);
        plan("FILES without LINES", x, 3, 0, -1, -1);
        Made.lines(x, 0, 0, 3);
        plan("one who is ABLE", x, 1, 0, -1, -1);
        x.here(0, false);
        x.here(1, false);
        none("nobody HERE", x, 1);
    }

    /** A MADE LINE by 0: nobody KNOWS it, 0 would with one READING (2 + 3), another one would not (3). */
    private static void oneTask() {
        KnowHouse x = Made.with(2, 9);
        Made.change(x, 2, 1, 0, 0, 100, 200, 300);
        plan("0 has it", x, 1, 3, 1, -1);
        none("1 would not be ABLE", x, 2);
        x.read(1, 1, 0, 2);
        plan("1 would be", x, 2, 6, 1, 1);
        x.day(10);
        plan("1 still would be (2 + 3)", x, 1, 3, -1, 1);
    }

    private static void hours() {
        KnowHouse x = new KnowHouse();
        x.person(3);
        x.person(2);
        Made.change(x, 2, 0, 0, 0, 100, 200, 300);
        plan("just its HOURS", x, 1, 3, 0, -1);
        Made.change(x, 2, 0, 1, 0, 400, 500, 600);
        none("too few HOURS", x, 1);
        x.read(1, 0, 1, 1);
        plan("a LINE that it KNOWS takes none", x, 1, 2, -1, 0);
    }

    /** With eight MARKS the first one goes: 8 POINTS are lost for 3. */
    private static void ninthMark() {
        KnowHouse x = Made.with(3, 9);
        Made.change(x, 2, 0, 0, 0, 100);
        x.day(5);
        for (int i = 0; i < 7; i++) {
            x.read(1, 0, 0, 0);
        }
        x.here(1, false);
        none("its 2 POINTS would go", x, 1);
        KnowHouse y = Made.with(3, 9);
        Made.change(y, 2, 0, 0, 0, 100);
        for (int i = 0; i < 6; i++) {
            y.read(1, 0, 0, 0);
        }
        y.here(1, false);
        plan("an eighth MARK makes none go", y, 1, 1, 0, -1, -1);
        y.here(1, true);
        y.day(10);
        y.read(2, 0, 0, 0);
        y.here(1, false);
        plan("another one's MARK goes", y, 1, 1, -1, -1, 0);
    }

    private static void byShare() {
        KnowHouse x = Made.with(2, 9);
        Made.change(x, 0, 0, 0, 0, 100, 200, 300, 400);
        x.read(1, 0, 0, 1);
        x.here(0, false);
        plan("half of it", x, 1, 4, -1, 0);
        x.share(51);
        none("more than half", x, 1);
        x.read(1, 0, 0, 0);
        x.read(1, 0, 2, 2);
        plan("three of four", x, 1, 3, -1, 0);
    }

    private static void leastHours() {
        KnowHouse x = Made.with(3, 9);
        Made.change(x, 3, 0, 0, 1, 100, 200, 300);
        x.day(10);
        plan("both know 4 POINTS of each: the first one", x, 1, 3, 0, -1, -1);
        x.read(1, 0, 2, 2);
        plan("the one with the least HOURS", x, 1, 2, -1, 0, -1);
        Made.change(x, 2, 1, 1, 0, 100, 200, 300, 400, 500);
        plan("1 alone can have FILE 1", x, 1, 8, 0, 1, -1);
    }

    private static void firstFile() {
        KnowHouse x = Made.with(2, 9);
        Made.change(x, 3, 4, 0, 1, 100);
        Made.change(x, 3, 2, 0, 1, 100);
        x.day(10);
        plan("PERSON 0 has the least FILE", x, 1, 2, 2, 4);
        Made.change(x, 3, 0, 0, 1, 100);
        plan("an ABLE one for FILE 0", x, 1, 2, 2, 4);
        x.day(10);
        none("three FILES for two", x, 1);
        KnowHouse y = Made.with(3, 9);
        Made.change(y, 3, 5, 1, 2, 100);
        y.day(10);
        plan("no TASK comes behind all", y, 1, 1, -1, 5, -1);
    }

    private static void many() {
        KnowHouse x = Made.with(4, 9);
        Made.change(x, 0, 0, 0, 0, 100);
        x.read(1, 0, 0, 0);
        x.read(2, 0, 0, 0);
        x.read(3, 0, 0, 0);
        plan("one", x, 1, 0, -1, -1, -1, -1);
        plan("two", x, 2, 1, -1, 0, -1, -1);
        plan("three", x, 3, 2, -1, 0, 0, -1);
        Made.change(x, 2, 1, 1, 0, 100);
        plan("1 for another FILE", x, 1, 1, -1, 1, -1, -1);
        none("nobody else for it", x, 2);
    }

    private static void notHere() {
        KnowHouse x = Made.with(3, 9);
        Made.change(x, 3, 0, 0, 1, 100);
        x.day(10);
        x.here(0, false);
        plan("1 has it", x, 1, 1, -1, 0, -1);
        x.day(90);
        none("all is faded", x, 1);
        x.read(1, 0, 0, 0);
        x.read(1, 0, 0, 0);
        plan("1 is ABLE", x, 1, 0, -1, -1, -1);
        x.here(1, false);
        none("an ABLE one that is not HERE", x, 1);
    }

    /** Six FILES that ask for three each are more than eight PEOPLE can read. */
    private static void tooMany() {
        KnowHouse x = Made.with(8, 99);
        for (int f = 0; f < 6; f++) {
            Made.change(x, 2, f, f, 0, 100);
        }
        none("eighteen TASKS", x, 3);
        plan("six", x, 1, 6, 0, 1, 2, 3, 4, 5, -1, -1);
    }

    /** Eight TASKS for eight PEOPLE: all but 7 can have FILES 2 to 4, all but 6 FILE 5. */
    private static void full() {
        KnowHouse x = Made.with(8, 99);
        for (int f = 2; f < 6; f++) {
            for (int i = 0; i <= f; i++) {
                x.text(100 + 10 * i);
            }
            x.change(3, f, 0, f == 5 ? 7 : 1);
        }
        x.day(10);
        for (int f = 2; f < 6; f++) {
            for (int p = 0; p < 5; p++) {
                x.read(f == 5 ? 1 + p : 2 + p, f, 0, f);
            }
        }
        Made.change(x, 3, 0, 0, 1, 100);
        Made.change(x, 3, 1, 0, 1, 100);
        plan("one for each FILE", x, 1, 18, 2, 3, 4, 5, -1, -1, -1, -1);
        plan("two for each FILE", x, 2, 36, 2, 2, 3, 3, 4, 5, 4, 5);
        none("three for each FILE", x, 3);
        x.here(3, false);
        none("two for each FILE without 3", x, 2);
        plan("one for each FILE without 3", x, 1, 18, 2, 3, 4, -1, 5, -1, -1, -1);
    }
}
