/** Promise 23, sentence by sentence: TASKS and THE PLAN at their edges. */
final class EdgesPlanTest {
    private static final int[] FAR = {Integer.MIN_VALUE, Integer.MIN_VALUE + 1, -1000, 1000, Integer.MAX_VALUE};
    private static final Due DUE = new Due();

    public static void main(String[] args) {
        asked();
        tasks();
        plans();
        DUE.end();
    }

    private static void asked() {
        noSuchMany();
        noSuchPerson();
        noPlan();
        noTask();
    }

    private static void tasks() {
        byOneHere();
        notForAble();
        ableThen();
        ableThenByShare();
        alone();
        ninthMarkGoes();
        ninthMarkOfKnownLine();
        eighthMarkStays();
        hoursAtMost();
        hoursOfUnknown();
        noHours();
        mostHours();
        allOfAFile();
    }

    private static void plans() {
        oneAPerson();
        filesWithLines();
        oneToThree();
        ableOrTask();
        leastHours();
        leastFile();
        noTaskBehind();
        thenTheNext();
        eightTasks();
        morePlacesThanPeople();
        manyStandsForItself();
    }

    /** THE PLAN's HOURS, and the FILE of each PERSON from 0 on. */
    private static void plan(String what, KnowHouse x, int many, int hours, int... files) {
        DUE.is(what + ": plan(" + many + ", -1)", x.plan(many, -1), hours);
        for (int p = 0; p < files.length; p++) {
            DUE.is(what + ": plan(" + many + ", " + p + ")", x.plan(many, p), files[p]);
        }
    }

    private static void none(String what, KnowHouse x, int many) {
        for (int p = -1; p < x.count(0); p++) {
            DUE.is(what + ": plan(" + many + ", " + p + ")", x.plan(many, p), -2);
        }
    }

    /** A FILE of so many LINES for which no one of two PEOPLE is ABLE, but each would be by reading it (4 + 3). */
    private static void faded(KnowHouse x, int file, int one, int other, int lines) {
        for (int i = 0; i < lines; i++) {
            x.text(1000 + 10 * i);
        }
        x.change(3, file, one, other);
    }

    private static void noSuchMany() {
        DUE.sentence(23, "A PLAN for a MANY 1 .. 3");
        KnowHouse x = Made.with(3, 0);
        Made.lines(x, 0, 0, 1);
        x.read(1, 0, 0, 0);
        x.read(1, 0, 0, 0);
        x.read(2, 0, 0, 0);
        x.read(2, 0, 0, 0);
        for (int what = -1; what < 3; what++) {
            DUE.is("plan(0, " + what + ")", x.plan(0, what), -2);
            DUE.is("plan(4, " + what + ")", x.plan(4, what), -2);
            DUE.is("plan(-1, " + what + ")", x.plan(-1, what), -2);
            for (int far : FAR) {
                DUE.is("plan(" + far + ", " + what + ")", x.plan(far, what), -2);
            }
        }
        plan("for one", x, 1, 0, -1, -1, -1);
        plan("for two", x, 2, 0, -1, -1, -1);
        plan("for three", x, 3, 0, -1, -1, -1);
        x.change(0, 0, 0, 0);
        plan("for three, without LINES", x, 3, 0, -1, -1, -1);
        none("for four, without LINES", x, 4);
        none("for none, without LINES", x, 0);
    }

    private static void noSuchPerson() {
        DUE.sentence(23, "-2: there is no PLAN; no such MANY, PERSON, what.");
        for (int people = 0; people <= 8; people++) {
            KnowHouse x = Made.with(people, 0);
            DUE.is("plan(1, -1) of " + people, x.plan(1, -1), 0);
            DUE.is("plan(1, the last one) of " + people, x.plan(1, people - 1), people == 0 ? 0 : -1);
            DUE.is("plan(1, none) of " + people, x.plan(1, people), -2);
            DUE.is("plan(1, -2) of " + people, x.plan(1, -2), -2);
            for (int far : FAR) {
                DUE.is("plan(1, " + far + ") of " + people, x.plan(1, far), -2);
            }
        }
    }

    private static void noPlan() {
        DUE.sentence(23, "-2: there is no PLAN");
        KnowHouse x = Made.with(2, 99);
        Made.change(x, 2, 0, 0, 0, 100);
        plan("0 would be ABLE", x, 1, 1, 0, -1);
        none("one at most would be", x, 2);
        none("and so for three", x, 3);
        x.here(0, false);
        none("1 would not be", x, 1);
        x.here(1, false);
        none("nobody HERE", x, 1);
    }

    private static void noTask() {
        DUE.sentence(23, "p: the FILE of PERSON p (NONE: no TASK)");
        KnowHouse x = Made.with(8, 99);
        faded(x, 5, 6, 7, 1);
        x.day(10);
        plan("6 alone", x, 1, 1, -1, -1, -1, -1, -1, -1, 5, -1);
        plan("6 and 7", x, 2, 2, -1, -1, -1, -1, -1, -1, 5, 5);
    }

    private static void byOneHere() {
        DUE.sentence(23, "A TASK: a PERSON HERE reads all of a FILE");
        KnowHouse x = Made.with(2, 99);
        faded(x, 0, 0, 1, 1);
        x.day(10);
        plan("both HERE", x, 1, 1, 0, -1);
        x.here(0, false);
        plan("1 HERE", x, 1, 1, -1, 0);
        x.here(1, false);
        none("nobody HERE", x, 1);
    }

    private static void notForAble() {
        DUE.sentence(23, "a FILE for which it is not ABLE");
        KnowHouse x = Made.with(2, 99);
        Made.lines(x, 0, 0, 4);
        x.read(1, 0, 0, 3);
        plan("0 is ABLE", x, 1, 0, -1, -1);
        plan("1 has it for two", x, 2, 4, -1, 0);
        none("0 can't have a TASK for what it is ABLE for", x, 3);
        KnowHouse y = Made.with(1, 99);
        Made.lines(y, 0, 0, 2);
        Made.change(y, 2, 0, 0, 0, 1000, 500);
        plan("it is ABLE by one of two LINES", y, 1, 0, -1);
        none("though it does not KNOW all", y, 2);
    }

    private static void ableThen() {
        DUE.sentence(23, "and would be then");
        KnowHouse x = Made.with(2, 99);
        Made.change(x, 2, 0, 0, 0, 100);
        x.here(1, false);
        plan("2 + 3 POINTS", x, 1, 1, 0, -1);
        x.day(9);
        plan("2 + 3 POINTS still", x, 1, 1, 0, -1);
        x.day(1);
        none("1 + 3 POINTS", x, 1);
        x.here(1, true);
        none("3 POINTS of another one", x, 1);
        x.read(1, 0, 0, 0);
        plan("3 + 3 POINTS of another one", x, 1, 1, -1, 0);
    }

    private static void ableThenByShare() {
        DUE.sentence(23, "at least SHARE hundredths (50 at first) of its LINES");
        KnowHouse x = Made.with(2, 99);
        Made.lines(x, 0, 0, 4);
        x.read(1, 0, 0, 1);
        x.here(0, false);
        plan("2 of 4 then", x, 1, 4, -1, 0);
        x.share(51);
        none("2 of 4 are too few then", x, 1);
        x.read(1, 0, 2, 2);
        plan("3 of 4 then", x, 1, 4, -1, 0);
        x.share(76);
        none("3 of 4 are too few then", x, 1);
    }

    /** Were they to read one behind the other, the second one's own MARK would go. */
    private static void alone() {
        DUE.sentence(23, "(by this READING alone, as it would be done");
        KnowHouse x = Made.with(3, 99);
        Made.change(x, 2, 0, 2, 0, 100);
        x.read(1, 0, 0, 0);
        x.read(0, 0, 0, 0);
        for (int k = 3; k < 8; k++) {
            x.read(2, 0, 0, 0);
        }
        x.here(2, false);
        DUE.is("line(0, 0, 2)", x.line(0, 0, 2), 8);
        plan("each by its own READING", x, 2, 2, 0, 0, -1);
        x.read(0, 0, 0, 0);
        DUE.is("able(0, 0)", x.able(0, 0), 1);
        plan("then 1's own MARK would go for it", x, 1, 0, -1, -1, -1);
        none("so it has no TASK", x, 2);
    }

    private static void ninthMarkGoes() {
        DUE.sentence(23, "a ninth MARK makes the first one go)");
        KnowHouse x = Made.with(3, 99);
        Made.change(x, 2, 0, 0, 0, 100);
        for (int k = 1; k < 8; k++) {
            x.read(1, 0, 0, 0);
        }
        x.here(1, false);
        none("its 2 POINTS would go", x, 1);
        KnowHouse y = Made.with(3, 99);
        Made.change(y, 2, 0, 2, 0, 100);
        y.read(0, 0, 0, 0);
        for (int k = 2; k < 8; k++) {
            y.read(1, 0, 0, 0);
        }
        y.here(1, false);
        plan("another one's POINTS would go", y, 1, 1, 0, -1, -1);
    }

    /** A READING can cost more than it gives: LINES that are known now would be so no more. */
    private static void ninthMarkOfKnownLine() {
        DUE.sentence(23, "a ninth MARK makes the first one go)");
        KnowHouse x = Made.with(2, 99);
        Made.change(x, 3, 0, 0, 1, 100);
        Made.change(x, 3, 0, 0, 1, 100, 200, 300);
        x.read(1, 0, 1, 2);
        x.day(10);
        for (int k = 2; k < 8; k++) {
            x.read(1, 0, 0, 0);
        }
        x.share(67);
        DUE.is("knows(1, 0)", x.knows(1, 0), 3);
        plan("1 is ABLE", x, 1, 0, -1, -1);
        x.here(1, false);
        plan("2 of 3 LINES are not enough by 67, 4 POINTS go for 3 in the first one", x, 1, -2, -2, -2);
        x.share(66);
        plan("2 of 3 LINES are enough by 66", x, 1, 3, 0, -1);
    }

    private static void eighthMarkStays() {
        DUE.sentence(23, "A LINE has 8 MARKS at most: beyond that the first one goes.");
        KnowHouse x = Made.with(2, 99);
        Made.change(x, 2, 0, 0, 0, 100);
        for (int k = 1; k < 7; k++) {
            x.read(1, 0, 0, 0);
        }
        x.here(1, false);
        DUE.is("line(0, 0, 2)", x.line(0, 0, 2), 7);
        plan("an eighth MARK makes none go", x, 1, 1, 0, -1);
        x.here(1, true);
        x.read(1, 0, 0, 0);
        x.here(1, false);
        none("a ninth one does", x, 1);
    }

    private static void hoursAtMost() {
        DUE.sentence(23, "at most its own HOURS (else there is no such TASK)");
        KnowHouse x = new KnowHouse();
        x.person(3);
        x.person(2);
        x.person(4);
        faded(x, 0, 0, 1, 3);
        x.day(10);
        plan("just its HOURS", x, 1, 3, 0, -1, -1);
        none("one HOUR too many for 1", x, 2);
        x.here(0, false);
        none("for 1 alone, too", x, 1);
        x.read(2, 0, 0, 2);
        plan("fewer than its HOURS", x, 1, 3, -1, -1, 0);
    }

    private static void hoursOfUnknown() {
        DUE.sentence(23, "it takes HOURS: how many LINES the FILE has that it does not KNOW");
        KnowHouse x = new KnowHouse();
        x.person(2);
        x.person(0);
        faded(x, 0, 0, 1, 3);
        x.day(10);
        none("three LINES in two HOURS", x, 1);
        x.read(0, 0, 1, 1);
        plan("two LINES in two HOURS", x, 1, 2, 0, -1);
        x.share(100);
        x.read(0, 0, 2, 2);
        plan("one LINE in two HOURS", x, 1, 1, 0, -1);
    }

    private static void noHours() {
        DUE.sentence(23, "have HOURS 0 .. 99");
        KnowHouse x = new KnowHouse();
        x.person(0);
        x.person(1);
        faded(x, 0, 0, 1, 1);
        plan("both are ABLE", x, 2, 0, -1, -1);
        x.day(10);
        plan("one without HOURS has no TASK", x, 1, 1, -1, 0);
        none("two of them", x, 2);
    }

    private static void mostHours() {
        DUE.sentence(23, "how many LINES the FILE has that it does not KNOW");
        KnowHouse x = new KnowHouse();
        x.person(20);
        x.person(19);
        faded(x, 0, 0, 1, 20);
        faded(x, 1, 1, 0, 19);
        x.day(10);
        plan("twenty LINES and nineteen", x, 1, 39, 0, 1);
        x.here(0, false);
        none("twenty LINES in nineteen HOURS", x, 1);
    }

    private static void allOfAFile() {
        DUE.sentence(23, "reads all of a FILE");
        KnowHouse x = Made.with(2, 99);
        faded(x, 0, 0, 1, 4);
        x.day(10);
        x.read(0, 0, 0, 0);
        plan("three LINES, though one would be enough", x, 1, 3, 0, -1);
    }

    private static void oneAPerson() {
        DUE.sentence(23, "TASKS, one a PERSON at most");
        KnowHouse x = Made.with(2, 99);
        Made.change(x, 2, 0, 0, 1, 100);
        plan("one FILE", x, 1, 1, 0, -1);
        Made.change(x, 2, 1, 0, 1, 100);
        none("two FILES for one", x, 1);
        x.read(1, 1, 0, 0);
        plan("1 has the other one", x, 1, 2, 0, 1);
    }

    private static void filesWithLines() {
        DUE.sentence(23, "by which each FILE with LINES has at least that many PEOPLE HERE");
        KnowHouse x = Made.with(1, 0);
        plan("FILES without LINES", x, 3, 0, -1);
        x.here(0, false);
        plan("FILES without LINES, nobody HERE", x, 3, 0, -1);
        x.here(0, true);
        Made.lines(x, 5, 0, 1);
        plan("one who is ABLE", x, 1, 0, -1);
        none("two of one", x, 2);
        x.here(0, false);
        none("an ABLE one that is not HERE", x, 1);
        x.here(0, true);
        x.change(0, 5, 0, 0);
        plan("without LINES again", x, 3, 0, -1);
    }

    private static void oneToThree() {
        DUE.sentence(23, "has at least that many PEOPLE HERE");
        KnowHouse x = Made.with(4, 99);
        Made.lines(x, 0, 0, 1);
        for (int p = 1; p < 4; p++) {
            x.read(p, 0, 0, 0);
        }
        plan("one", x, 1, 0, -1, -1, -1, -1);
        plan("two", x, 2, 1, -1, 0, -1, -1);
        plan("three", x, 3, 2, -1, 0, 0, -1);
        x.read(3, 0, 0, 0);
        plan("two, 3 is ABLE", x, 2, 0, -1, -1, -1, -1);
        plan("three, 3 is ABLE", x, 3, 1, -1, 0, -1, -1);
        x.read(2, 0, 0, 0);
        x.read(1, 0, 0, 0);
        plan("more than three", x, 3, 0, -1, -1, -1, -1);
    }

    private static void ableOrTask() {
        DUE.sentence(23, "that are ABLE for it now or have a TASK for it");
        KnowHouse x = Made.with(3, 99);
        Made.lines(x, 0, 0, 2);
        x.read(1, 0, 0, 1);
        plan("0 is ABLE, 1 has a TASK", x, 2, 2, -1, 0, -1);
        none("2 would not be", x, 3);
        x.here(0, false);
        plan("0 does not count", x, 1, 2, -1, 0, -1);
        none("so there is one alone", x, 2);
    }

    private static void leastHours() {
        DUE.sentence(23, "THE PLAN is the one of the least HOURS together");
        KnowHouse x = Made.with(3, 99);
        faded(x, 0, 0, 1, 5);
        faded(x, 1, 1, 2, 5);
        x.day(10);
        plan("either has five", x, 1, 10, 0, 1, -1);
        x.read(1, 0, 0, 1);
        plan("1 has FILE 0, in three HOURS", x, 1, 8, -1, 0, 1);
        x.read(2, 1, 0, 0);
        x.read(1, 1, 0, 2);
        x.share(61);
        plan("5 + 2 and 3 + 4 are the same: 0 has one", x, 1, 7, 0, 1, -1);
        x.read(2, 1, 1, 1);
        plan("3 + 3 now", x, 1, 6, -1, 0, 1);
    }

    private static void leastFile() {
        DUE.sentence(23, "of these the one in which PERSON 0 has the FILE with the least number");
        KnowHouse x = Made.with(2, 99);
        faded(x, 5, 0, 1, 2);
        faded(x, 3, 0, 1, 2);
        x.day(10);
        plan("FILE 3 for 0", x, 1, 4, 3, 5);
        x.read(1, 3, 0, 0);
        x.read(0, 5, 0, 0);
        x.share(100);
        plan("FILE 5 for 0 takes fewer HOURS", x, 1, 2, 5, 3);
    }

    private static void noTaskBehind() {
        DUE.sentence(23, "(no TASK comes behind all)");
        KnowHouse x = Made.with(4, 99);
        faded(x, 5, 1, 3, 2);
        x.day(10);
        plan("1 ahead of 3", x, 1, 2, -1, 5, -1, -1);
        faded(x, 0, 0, 3, 2);
        x.day(10);
        x.read(1, 5, 0, 1);
        x.read(3, 5, 0, 1);
        plan("0 and 3", x, 1, 2, 0, -1, -1, -1);
    }

    private static void thenTheNext() {
        DUE.sentence(23, "then PERSON 1, and so on");
        KnowHouse x = Made.with(5, 99);
        faded(x, 4, 1, 2, 1);
        faded(x, 2, 1, 2, 1);
        faded(x, 3, 3, 4, 1);
        x.day(10);
        plan("1 has FILE 2, 2 has FILE 4, 3 has FILE 3", x, 1, 3, -1, 2, 4, 3, -1);
        faded(x, 0, 0, 1, 1);
        faded(x, 1, 0, 1, 1);
        x.day(10);
        x.read(2, 2, 0, 0);
        x.read(2, 4, 0, 0);
        x.read(1, 2, 0, 0);
        x.read(1, 4, 0, 0);
        x.read(3, 3, 0, 0);
        plan("0 has FILE 0, 1 has FILE 1", x, 1, 2, 0, 1, -1, -1, -1);
    }

    private static void eightTasks() {
        DUE.sentence(23, "PEOPLE (8 at most, numbered from 0)");
        KnowHouse x = Made.with(8, 99);
        for (int f = 0; f < 4; f++) {
            faded(x, f, 7 - 2 * f, 6 - 2 * f, 20);
        }
        x.day(10);
        plan("all eight have one", x, 2, 160, 3, 3, 2, 2, 1, 1, 0, 0);
        plan("four of them", x, 1, 80, 3, -1, 2, -1, 1, -1, 0, -1);
        none("three for each FILE", x, 3);
        faded(x, 4, 0, 1, 1);
        x.day(10);
        plan("0 or 1 for FILE 4, too", x, 1, 81, 3, 4, 2, -1, 1, -1, 0, -1);
        none("a ninth and a tenth one", x, 2);
    }

    private static void morePlacesThanPeople() {
        DUE.sentence(23, "-2: there is no PLAN");
        KnowHouse x = Made.with(8, 99);
        for (int f = 0; f < 6; f++) {
            faded(x, f, f, f + 1, 1);
        }
        x.day(10);
        plan("six", x, 1, 6, 0, 1, 2, 3, 4, 5, -1, -1);
        none("twelve for eight", x, 2);
        none("eighteen for eight", x, 3);
    }

    /** What was asked before leaves nothing behind. */
    private static void manyStandsForItself() {
        DUE.sentence(23, "Of THE PLAN for a MANY: what = -1: its HOURS");
        KnowHouse x = Made.with(3, 99);
        faded(x, 0, 0, 1, 2);
        x.day(10);
        for (int time = 0; time < 2; time++) {
            plan("one", x, 1, 2, 0, -1, -1);
            plan("two", x, 2, 4, 0, 0, -1);
            none("three", x, 3);
        }
        x.read(0, 0, 0, 1);
        plan("one, 0 is ABLE", x, 1, 0, -1, -1, -1);
    }
}
