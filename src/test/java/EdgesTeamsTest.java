/** Promises 20 to 22, 24 and 25, sentence by sentence: LOST, LONE, COVER, sum and count at their edges. */
final class EdgesTeamsTest {
    private static final int[] FAR = {Integer.MIN_VALUE, Integer.MIN_VALUE + 1, -1000, 1000, Integer.MAX_VALUE};
    private static final Due DUE = new Due();

    public static void main(String[] args) {
        lost();
        lone();
        cover();
        sum();
        count();
        DUE.end();
    }

    private static void lost() {
        lostByNobodyElse();
        lostOfNotHere();
        lostOfNobody();
        lostAsBits();
        lostWithNobodyHere();
        lostWithFading();
    }

    private static void lone() {
        oneTwoOrThree();
        notFour();
        notLostByLess();
        notLostByNobody();
        byHowMany();
        ofPeopleHere();
        onceEach();
        loneOfNone();
    }

    private static void cover() {
        fewest();
        leastNumber();
        coverOfNotLost();
        coverOfEmptyFiles();
        coverOfNobody();
        sixNeeded();
    }

    private static void sum() {
        oneHand();
        oneOfBoth();
        sumOfAll();
        sumOfNone();
        sumBehindBacks();
    }

    private static void count() {
        countOfAnother();
        countsAtMost();
        countsOfLone();
        countsOfTrace();
    }

    /**
     * A FILE with one LINE that just these PEOPLE (bits; four at most, so that no MARK goes) are ABLE for; with none of
     * them nobody is.
     */
    private static void team(KnowHouse x, int file, int people) {
        if (people == 0) {
            Made.change(x, 2, file, 0, 0, 100 + file);
            return;
        }
        int first = Integer.numberOfTrailingZeros(people);
        Made.change(x, 0, file, first, 0, 100 + file);
        for (int p = first + 1; p < 8; p++) {
            if ((people >> p & 1) == 1) {
                x.read(p, file, 0, 0);
                x.read(p, file, 0, 0);
            }
        }
    }

    /** So many PEOPLE; FILE f has the f-th team, those behind them are without LINES. */
    private static KnowHouse teams(int people, int... teams) {
        KnowHouse x = Made.with(people, 0);
        for (int f = 0; f < teams.length; f++) {
            team(x, f, teams[f]);
        }
        return x;
    }

    private static void sets(String what, KnowHouse x, int... sets) {
        for (int i = 0; i < sets.length; i++) {
            DUE.is(what + ": lone(" + i + ")", x.lone(i), sets[i]);
        }
        for (int i = sets.length; i < 8; i++) {
            DUE.is(what + ": lone(" + i + ")", x.lone(i), -1);
        }
        DUE.is(what + ": count(6)", x.count(6), sets.length);
    }

    private static void lostByNobodyElse() {
        DUE.sentence(20, "the FILES for which nobody HERE that is not in it is ABLE");
        KnowHouse x = teams(3, 1, 3, 7, 0, 6, 4);
        int[] lost = {8, 9, 8, 11, 40, 41, 56, 63};
        for (int people = 0; people < 8; people++) {
            DUE.is("lost(" + people + ")", x.lost(people), lost[people]);
        }
    }

    private static void lostOfNotHere() {
        DUE.sentence(20, "(bits; those that are not HERE do not matter)");
        KnowHouse x = teams(3, 1, 3, 7, 0, 6, 4);
        x.here(2, false);
        int[] lost = {40, 41, 56, 63};
        for (int people = 0; people < 4; people++) {
            DUE.is("lost(" + people + ")", x.lost(people), lost[people]);
            DUE.is("lost(" + (people + 4) + ")", x.lost(people + 4), lost[people]);
        }
    }

    private static void lostOfNobody() {
        DUE.sentence(20, "-1: bits of PEOPLE that there are not.");
        for (int people = 0; people <= 8; people++) {
            KnowHouse x = Made.with(people, 0);
            int all = (1 << people) - 1;
            DUE.is("lost(all) of " + people, x.lost(all), 63);
            DUE.is("lost(one more) of " + people, x.lost(all + 1), -1);
            DUE.is("lost(one more and all) of " + people, x.lost(2 * all + 1), -1);
            DUE.is("lost(-1) of " + people, x.lost(-1), -1);
            DUE.is("lost(1 << 31) of " + people, x.lost(1 << 31), -1);
            DUE.is("lost(1 << 30) of " + people, x.lost(1 << 30), -1);
            for (int far : FAR) {
                DUE.is("lost(" + far + ") of " + people, x.lost(far), -1);
            }
        }
    }

    private static void lostAsBits() {
        DUE.sentence(20, "LOST FILES, as bits");
        for (int f = 0; f < 6; f++) {
            KnowHouse x = Made.with(2, 0);
            team(x, f, 0);
            DUE.is("lost(0) of FILE " + f, x.lost(0), 1 << f);
            KnowHouse y = Made.with(2, 0);
            team(y, f, 2);
            DUE.is("lost(0) of none", y.lost(0), 0);
            DUE.is("lost(2) of FILE " + f, y.lost(2), 1 << f);
        }
    }

    private static void lostWithNobodyHere() {
        DUE.sentence(20, "nobody HERE that is not in it is ABLE");
        KnowHouse x = teams(2, 1);
        x.here(0, false);
        DUE.is("lost(0), one HERE", x.lost(0), 1);
        x.here(1, false);
        DUE.is("lost(0), nobody HERE: FILES without LINES, too", x.lost(0), 63);
        DUE.is("lost(3), nobody HERE", x.lost(3), 63);
    }

    private static void lostWithFading() {
        DUE.sentence(20, "POINTS less the days since its DAY by 10 (cut)");
        KnowHouse x = teams(2, 1, 2);
        x.day(39);
        DUE.is("lost(0) with 5 POINTS", x.lost(0), 0);
        x.day(1);
        DUE.is("lost(0) with 4 POINTS", x.lost(0), 3);
    }

    private static void oneTwoOrThree() {
        DUE.sentence(21, "the sets of one, two or three PEOPLE HERE");
        sets("one, two, three", teams(8, 1, 6, 56), 1, 6, 56);
        sets("the last ones", teams(8, 128, 192, 224), 128, 192, 224);
    }

    private static void notFour() {
        DUE.sentence(21, "the sets of one, two or three PEOPLE HERE");
        sets("four, and all eight for FILES without LINES", teams(8, 15, 240, 102));
        sets("three of all three", teams(3), 7);
        sets("four of all four", teams(4));
    }

    private static void notLostByLess() {
        DUE.sentence(21, "that is not LOST by any set that lacks one or more of them");
        KnowHouse x = teams(4, 1, 2, 12);
        sets("no set has more than it needs", x, 1, 2, 12);
        DUE.is("lost(3)", x.lost(3), 3);
        DUE.is("lost(13)", x.lost(13), 5);
        sets("a set in another one, for another FILE", teams(4, 1, 3, 7), 1, 3, 7);
    }

    private static void notLostByNobody() {
        DUE.sentence(21, "(the empty one, too)");
        KnowHouse x = teams(4, 0, 0);
        DUE.is("lost(0)", x.lost(0), 3);
        sets("what is LOST anyway", x);
        x.here(3, false);
        sets("what is LOST anyway, three HERE", x, 7);
    }

    private static void byHowMany() {
        DUE.sentence(21, "by how many they are, then as numbers (bits)");
        sets("six sets", teams(8, 7, 3, 224, 128, 192, 64), 64, 128, 3, 192, 7, 224);
        sets("as numbers", teams(8, 130, 65, 36, 24), 24, 36, 65, 130);
        sets("a great one ahead of two small ones", teams(8, 3, 128), 128, 3);
        sets("of one and of three", teams(8, 56, 7, 16, 8), 8, 16, 7, 56);
    }

    private static void ofPeopleHere() {
        DUE.sentence(21, "the sets of one, two or three PEOPLE HERE by which some FILE is LOST");
        KnowHouse x = teams(8, 15, 3, 128);
        sets("all HERE", x, 128, 3);
        x.here(0, false);
        sets("without 0", x, 2, 128, 14);
        x.here(7, false);
        sets("without 0 and 7", x, 2, 14);
        for (int p = 1; p < 7; p++) {
            x.here(p, false);
        }
        sets("nobody HERE", x);
        x.here(7, true);
        sets("7 alone", x, 128);
    }

    private static void onceEach() {
        DUE.sentence(21, "The i-th LONE set, as bits.");
        sets("one team for all six", teams(8, 5, 5, 5, 5, 5, 5), 5);
        sets("two of them", teams(8, 5, 2, 5, 2, 5, 2), 2, 5);
    }

    private static void loneOfNone() {
        DUE.sentence(21, "as bits. -1: none such.");
        KnowHouse x = teams(8, 1, 2, 4, 8, 16, 32);
        sets("six of them", x, 1, 2, 4, 8, 16, 32);
        DUE.is("lone(-1)", x.lone(-1), -1);
        DUE.is("lone(7)", x.lone(7), -1);
        for (int far : FAR) {
            DUE.is("lone(" + far + ")", x.lone(far), -1);
        }
        DUE.is("lone(0) of a new object", new KnowHouse().lone(0), -1);
    }

    private static void fewest() {
        DUE.sentence(22, "the fewest PEOPLE HERE of whom one is ABLE for each FILE");
        DUE.is("one with a great number", teams(8, 129, 130, 132, 136, 144, 160).cover(), 128);
        DUE.is("two with great numbers", teams(8, 65, 66, 68, 136, 144, 160).cover(), 192);
        DUE.is("one of each", teams(3, 1, 2, 4).cover(), 7);
        DUE.is("one is enough", teams(3, 7, 5, 6).cover(), 4);
    }

    private static void leastNumber() {
        DUE.sentence(22, "of several sets the least number");
        DUE.is("the first one", teams(8, 15, 15).cover(), 1);
        DUE.is("either of two", teams(8, 96, 224).cover(), 32);
        DUE.is("1 and 2, or 0 and 3", teams(4, 3, 12, 5, 10).cover(), 6);
        DUE.is("two of one, two of another", teams(8, 48, 192).cover(), 80);
    }

    private static void coverOfNotLost() {
        DUE.sentence(22, "for each FILE that is not LOST by the empty set");
        KnowHouse x = teams(2, 0, 2, 2, 2, 2, 2);
        DUE.is("one FILE is LOST", x.cover(), 2);
        x.here(1, false);
        DUE.is("all are LOST", x.lost(0), 63);
        DUE.is("none is to be covered", x.cover(), 0);
        x.here(1, true);
        DUE.is("all but one are, again", x.cover(), 2);
    }

    private static void coverOfEmptyFiles() {
        DUE.sentence(22, "(of a FILE without LINES all are)");
        KnowHouse x = Made.with(3, 0);
        DUE.is("FILES without LINES ask for one, too", x.cover(), 1);
        x.here(0, false);
        DUE.is("the least one HERE", x.cover(), 2);
        x.here(1, false);
        DUE.is("the last one HERE", x.cover(), 4);
    }

    private static void coverOfNobody() {
        DUE.sentence(22, "COVER, as bits.");
        KnowHouse x = Made.with(2, 0);
        x.here(0, false);
        x.here(1, false);
        DUE.is("nobody HERE", x.cover(), 0);
        DUE.is("a new object", new KnowHouse().cover(), 0);
        KnowHouse full = Made.with(8, 0);
        DUE.is("eight HERE", full.cover(), 1);
    }

    private static void sixNeeded() {
        DUE.sentence(22, "the fewest PEOPLE HERE");
        DUE.is("one for each of six", teams(8, 4, 8, 16, 32, 64, 128).cover(), 252);
    }

    private static void oneHand() {
        DUE.sentence(24, "2 for each LINE of a FILE (-1: of all) whose MAKER is by a PERSON as its one HAND");
        int[] kinds = {0, 1, 2, 5};
        for (int kind : kinds) {
            KnowHouse x = Made.with(3, 0);
            Made.change(x, kind, 4, 1, 2, 100, 200, 300);
            DUE.is("sum(1, 4) of KIND " + kind, x.sum(1, 4), 6);
            DUE.is("sum(2, 4) of KIND " + kind, x.sum(2, 4), 0);
            DUE.is("sum(1, 3) of KIND " + kind, x.sum(1, 3), 0);
            x.read(2, 4, 0, 2);
            DUE.is("a READING gives none", x.sum(2, 4), 0);
        }
    }

    private static void oneOfBoth() {
        DUE.sentence(24, "1 for each whose MAKER is PAIRED and by it as one of both");
        KnowHouse x = Made.with(3, 0);
        Made.change(x, 3, 0, 1, 2, 100, 200);
        DUE.is("sum(1, 0)", x.sum(1, 0), 2);
        DUE.is("sum(2, 0)", x.sum(2, 0), 2);
        DUE.is("sum(0, 0)", x.sum(0, 0), 0);
        Made.change(x, 0, 0, 2, 0, 100, 200, 300);
        DUE.is("sum(2, 0), 1 + 1 + 2", x.sum(2, 0), 4);
    }

    private static void sumOfAll() {
        DUE.sentence(24, "(-1: of all)");
        KnowHouse x = Made.with(2, 0);
        for (int f = 0; f < 6; f++) {
            Made.lines(x, f, 1, 20);
            DUE.is("sum(1, " + f + ")", x.sum(1, f), 40);
        }
        DUE.is("sum(1, -1)", x.sum(1, -1), 240);
        DUE.is("sum(0, -1)", x.sum(0, -1), 0);
        DUE.is("sum(1, -2)", x.sum(1, -2), -1);
    }

    private static void sumOfNone() {
        DUE.sentence(24, "by it as one of both. -1: no such.");
        KnowHouse x = Made.with(2, 0);
        Made.lines(x, 5, 1, 2);
        int[] nobody = {-1, 2, 8};
        for (int p : nobody) {
            DUE.is("sum(" + p + ", 5)", x.sum(p, 5), -1);
            DUE.is("sum(" + p + ", -1)", x.sum(p, -1), -1);
        }
        DUE.is("sum(1, 6)", x.sum(1, 6), -1);
        for (int far : FAR) {
            DUE.is("sum(" + far + ", 5)", x.sum(far, 5), -1);
            DUE.is("sum(1, " + far + ")", x.sum(1, far), -1);
        }
        x.here(1, false);
        DUE.is("sum(1, 5) of one that is not HERE", x.sum(1, 5), 4);
    }

    private static void sumBehindBacks() {
        DUE.sentence(24, "whose MAKER is by a PERSON");
        KnowHouse x = Made.with(3, 0);
        Made.lines(x, 0, 0, 3);
        x.change(0, 0, 1, 0);
        x.back(1, 2);
        DUE.is("the BACK's HAND has none", x.sum(2, 0), 0);
        DUE.is("the MAKER's HAND has them", x.sum(0, 0), 6);
        Made.change(x, 5, 0, 2, 0, 1020, 1010, 1000);
        DUE.is("KEPT ones stay", x.sum(0, 0), 6);
    }

    private static void countOfAnother() {
        DUE.sentence(25, "7 THE TRACE's bodies. -1: another.");
        KnowHouse x = Made.with(1, 0);
        DUE.is("count(-1)", x.count(-1), -1);
        DUE.is("count(8)", x.count(8), -1);
        for (int far : FAR) {
            DUE.is("count(" + far + ")", x.count(far), -1);
        }
    }

    private static void countsAtMost() {
        DUE.sentence(25, "0 PEOPLE, 1 CHANGES, 2 THE DAY, 3 SHARE, 4 numbers on THE TAPE, 5 PEOPLE HERE");
        KnowHouse x = Made.with(8, 0);
        x.here(7, false);
        for (int k = 0; k < 60; k++) {
            x.change(0, 0, 0, 0);
        }
        Made.day(x, 100000);
        x.share(100);
        for (int i = 0; i < 20; i++) {
            x.text(10);
        }
        int[] counts = {8, 60, 100000, 100, 20, 7};
        for (int what = 0; what < counts.length; what++) {
            DUE.is("count(" + what + ")", x.count(what), counts[what]);
        }
    }

    private static void countsOfLone() {
        DUE.sentence(25, "6 LONE sets");
        DUE.is("six", teams(8, 1, 2, 4, 3, 5, 7).count(6), 6);
        DUE.is("none", teams(8, 15, 15, 15, 15, 15, 15).count(6), 0);
        DUE.is("one of one", Made.with(1, 0).count(6), 1);
        DUE.is("of a new object", new KnowHouse().count(6), 0);
    }

    private static void countsOfTrace() {
        DUE.sentence(25, "7 THE TRACE's bodies");
        KnowHouse x = Made.with(1, 0);
        x.change(5, 0, 0, 0);
        DUE.is("count(7) at first", x.count(7), 0);
        x.act(0, 3, 0);
        DUE.is("count(7)", x.count(7), 8);
        x.act(0, 2, 0);
        DUE.is("count(7) then", x.count(7), 1);
    }
}
