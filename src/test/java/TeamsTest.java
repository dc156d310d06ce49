/** Promises 20 to 22: LOST, LONE and COVER. */
final class TeamsTest {
    private static final Due DUE = new Due();

    public static void main(String[] args) {
        lost();
        lone();
        loneOfFour();
        loneOfOne();
        cover();
        coverOfMany();
        DUE.end();
    }

    /** A FILE that just these PEOPLE (bits) are ABLE for. */
    private static void team(KnowHouse x, int file, int people) {
        int first = Integer.numberOfTrailingZeros(people);
        Made.lines(x, file, first, 1);
        for (int p = first + 1; p < 8; p++) {
            if ((people >> p & 1) == 1) {
                x.read(p, file, 0, 0);
                x.read(p, file, 0, 0);
            }
        }
    }

    private static void lost() {
        KnowHouse x = Made.with(3, 1);
        team(x, 0, 1);
        team(x, 1, 3);
        team(x, 5, 4);
        DUE.is("20: lost(0)", x.lost(0), 0);
        DUE.is("20: lost(1)", x.lost(1), 1);
        DUE.is("20: lost(2)", x.lost(2), 0);
        DUE.is("20: lost(3)", x.lost(3), 3);
        DUE.is("20: lost(4)", x.lost(4), 32);
        DUE.is("20: lost(7), FILES without LINES too", x.lost(7), 63);
        DUE.is("20: lost(8)", x.lost(8), -1);
        DUE.is("20: lost(15)", x.lost(15), -1);
        DUE.is("20: lost(-1)", x.lost(-1), -1);
        DUE.is("20: lost(MIN)", x.lost(Integer.MIN_VALUE), -1);
        x.here(0, false);
        DUE.is("20: lost(0) without 0", x.lost(0), 1);
        DUE.is("20: lost(1) without 0", x.lost(1), 1);
        DUE.is("20: lost(2) without 0", x.lost(2), 3);
        DUE.is("20: lost(6) without 0", x.lost(6), 63);
        x.share(100);
        x.day(80);
        DUE.is("20: lost(0) when all has faded", x.lost(0), 35);
    }

    private static void lone() {
        KnowHouse x = Made.with(4, 1);
        team(x, 0, 8);
        team(x, 1, 3);
        team(x, 2, 7);
        team(x, 3, 4);
        team(x, 4, 3);
        team(x, 5, 10);
        int[] wanted = {4, 8, 3, 10, 7, -1, -1};
        for (int i = 0; i < wanted.length; i++) {
            DUE.is("21: lone(" + i + ")", x.lone(i), wanted[i]);
        }
        DUE.is("21: lone(-1)", x.lone(-1), -1);
        DUE.is("21: lone(MAX)", x.lone(Integer.MAX_VALUE), -1);
        DUE.is("25: count(6)", x.count(6), 5);
        x.here(3, false);
        int[] then = {2, 4, 3, 7, -1};
        for (int i = 0; i < then.length; i++) {
            DUE.is("21: without 3: lone(" + i + ")", x.lone(i), then[i]);
        }
        DUE.is("25: count(6) without 3", x.count(6), 4);
    }

    private static void loneOfFour() {
        KnowHouse x = Made.with(4, 1);
        DUE.is("21: four alone for all FILES", x.lone(0), -1);
        DUE.is("25: count(6) of four", x.count(6), 0);
        x.here(1, false);
        DUE.is("21: three of them", x.lone(0), 13);
        DUE.is("25: count(6) of three", x.count(6), 1);
    }

    private static void loneOfOne() {
        KnowHouse x = Made.with(1, 1);
        DUE.is("21: PERSON 0 alone", x.lone(0), 1);
        DUE.is("25: count(6) of one", x.count(6), 1);
        x.here(0, false);
        DUE.is("25: count(6) of nobody", x.count(6), 0);
        DUE.is("21: nobody", x.lone(0), -1);
        x.person(1);
        team(x, 0, 2);
        DUE.is("21: PERSON 1 alone", x.lone(0), 2);
        DUE.is("21: PERSON 1 alone, once", x.lone(1), -1);
        x.here(0, true);
        DUE.is("25: count(6) of two", x.count(6), 2);
        DUE.is("21: PERSON 1 for FILE 0", x.lone(0), 2);
        DUE.is("21: both for the others", x.lone(1), 3);
    }

    private static void cover() {
        KnowHouse x = Made.with(3, 1);
        DUE.is("22: FILES without LINES", x.cover(), 1);
        x.here(0, false);
        DUE.is("22: one who is HERE", x.cover(), 2);
        x.here(0, true);
        team(x, 0, 6);
        DUE.is("22: the least number", x.cover(), 2);
        team(x, 1, 5);
        DUE.is("22: one for both", x.cover(), 4);
        team(x, 2, 2);
        DUE.is("22: two", x.cover(), 3);
        team(x, 3, 4);
        DUE.is("22: two others", x.cover(), 6);
        team(x, 4, 1);
        DUE.is("22: three", x.cover(), 7);
        x.here(1, false);
        DUE.is("22: a FILE that is LOST does not matter", x.cover(), 5);
        x.here(0, false);
        x.here(2, false);
        DUE.is("22: nobody HERE", x.cover(), 0);
    }

    /** Fewest PEOPLE go ahead of the least number. */
    private static void coverOfMany() {
        KnowHouse x = Made.with(8, 1);
        team(x, 0, 129);
        team(x, 1, 130);
        team(x, 2, 132);
        team(x, 3, 136);
        DUE.is("22: one with a high number", x.cover(), 128);
        team(x, 4, 65);
        team(x, 5, 33);
        DUE.is("22: two of them", x.cover(), 129);
        x.here(7, false);
        DUE.is("22: four of them", x.cover(), 15);
    }
}
